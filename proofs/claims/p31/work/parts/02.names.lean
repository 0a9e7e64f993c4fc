/-! ===== BEGIN printed: names, fields, word lists, decode rows ===== -/
def RX0 : String := "GateRow$Card"
def TX0 : u_T := fun k => match k with
  | 0 => ("GateRow$Card", "name", "I", false)
  | 1 => ("GateRow$Card", "trips", "I", false)
  | 2 => ("GateRow$Card", "isInside", "Z", false)
  | 3 => ("GateRow$Card", "isListed", "Z", false)
  | _ => ("GateRow$Card", "passages", "I", false)
def tyX0 : Nat → FieldType := fun k => match k with
  | 0 => .int
  | 1 => .int
  | 2 => .boolean
  | 3 => .boolean
  | _ => .int
theorem nmX0 : ∀ a, a < 5 → ∀ b, b < 5 → a ≠ b → (TX0 a).2.1 ≠ (TX0 b).2.1 := by decide +kernel
theorem tyX0_ok : ∀ k, k < 5 → parseFieldDescriptor (TX0 k).2.2.1 = some (tyX0 k) := by decide +kernel
abbrev cX0_init : ByteArray := prog_2_method_1_code
def yX0_init : MethodName := ⟨RX0, "<init>", "()V"⟩
abbrev cX0_copyFrom : ByteArray := prog_2_method_2_code
def yX0_copyFrom : MethodName := ⟨RX0, "copyFrom", "(LGateRow$Card;)V"⟩
abbrev cX0_reasonAgainst : ByteArray := prog_2_method_3_code
def yX0_reasonAgainst : MethodName := ⟨RX0, "reasonAgainst", "(I)I"⟩
abbrev cX0_passFrom : ByteArray := prog_2_method_4_code
def yX0_passFrom : MethodName := ⟨RX0, "passFrom", "(I)V"⟩
def RX1 : String := "GateRow$Gate"
def TX1 : u_T := fun k => match k with
  | 0 => ("GateRow$Gate", "outerLine", "LGateRow$Line;", true)
  | 1 => ("GateRow$Gate", "innerLine", "LGateRow$Line;", true)
  | 2 => ("GateRow$Gate", "mode", "I", false)
  | 3 => ("GateRow$Gate", "openTicks", "I", false)
  | 4 => ("GateRow$Gate", "openSide", "I", false)
  | 5 => ("GateRow$Gate", "isSomebodyDue", "Z", false)
  | 6 => ("GateRow$Gate", "alarms", "I", false)
  | 7 => ("GateRow$Gate", "openings", "I", false)
  | _ => ("GateRow$Gate", "lastSide", "I", false)
def tyX1 : Nat → FieldType := fun k => match k with
  | 0 => .object "GateRow$Line"
  | 1 => .object "GateRow$Line"
  | 2 => .int
  | 3 => .int
  | 4 => .int
  | 5 => .boolean
  | 6 => .int
  | 7 => .int
  | _ => .int
theorem nmX1 : ∀ a, a < 9 → ∀ b, b < 9 → a ≠ b → (TX1 a).2.1 ≠ (TX1 b).2.1 := by decide +kernel
theorem tyX1_ok : ∀ k, k < 9 → parseFieldDescriptor (TX1 k).2.2.1 = some (tyX1 k) := by decide +kernel
abbrev cX1_init : ByteArray := prog_3_method_1_code
def yX1_init : MethodName := ⟨RX1, "<init>", "()V"⟩
abbrev cX1_copyFrom : ByteArray := prog_3_method_2_code
def yX1_copyFrom : MethodName := ⟨RX1, "copyFrom", "(LGateRow$Gate;)V"⟩
abbrev cX1_numberOfGate : ByteArray := prog_3_method_3_code
def yX1_numberOfGate : MethodName := ⟨RX1, "numberOfGate", "(I)I"⟩
abbrev cX1_lineOn : ByteArray := prog_3_method_4_code
def yX1_lineOn : MethodName := ⟨RX1, "lineOn", "(I)LGateRow$Line;"⟩
abbrev cX1_peopleInLines : ByteArray := prog_3_method_5_code
def yX1_peopleInLines : MethodName := ⟨RX1, "peopleInLines", "()I"⟩
abbrev cX1_serves : ByteArray := prog_3_method_6_code
def yX1_serves : MethodName := ⟨RX1, "serves", "(I)Z"⟩
abbrev cX1_servesInMode : ByteArray := prog_3_method_7_code
def yX1_servesInMode : MethodName := ⟨RX1, "servesInMode", "(II)Z"⟩
abbrev cX1_peopleNotServedIn : ByteArray := prog_3_method_8_code
def yX1_peopleNotServedIn : MethodName := ⟨RX1, "peopleNotServedIn", "(I)I"⟩
abbrev cX1_canTakeMode : ByteArray := prog_3_method_9_code
def yX1_canTakeMode : MethodName := ⟨RX1, "canTakeMode", "(I)Z"⟩
abbrev cX1_isOpen : ByteArray := prog_3_method_10_code
def yX1_isOpen : MethodName := ⟨RX1, "isOpen", "()Z"⟩
abbrev cX1_isFirstDueOn : ByteArray := prog_3_method_11_code
def yX1_isFirstDueOn : MethodName := ⟨RX1, "isFirstDueOn", "(I)Z"⟩
abbrev cX1_sideServedNext : ByteArray := prog_3_method_12_code
def yX1_sideServedNext : MethodName := ⟨RX1, "sideServedNext", "()I"⟩
abbrev cX1_openFor : ByteArray := prog_3_method_13_code
def yX1_openFor : MethodName := ⟨RX1, "openFor", "(II)V"⟩
abbrev cX1_closePaddles : ByteArray := prog_3_method_14_code
def yX1_closePaddles : MethodName := ⟨RX1, "closePaddles", "()V"⟩
def RX2 : String := "GateRow$History"
def TX2 : u_T := fun k => match k with
  | 0 => ("GateRow$History", "rows", "[LGateRow$Row;", true)
  | 1 => ("GateRow$History", "newest", "I", false)
  | _ => ("GateRow$History", "count", "I", false)
def tyX2 : Nat → FieldType := fun k => match k with
  | 0 => .array (.object "GateRow$Row")
  | 1 => .int
  | _ => .int
theorem nmX2 : ∀ a, a < 3 → ∀ b, b < 3 → a ≠ b → (TX2 a).2.1 ≠ (TX2 b).2.1 := by decide +kernel
theorem tyX2_ok : ∀ k, k < 3 → parseFieldDescriptor (TX2 k).2.2.1 = some (tyX2 k) := by decide +kernel
abbrev cX2_init : ByteArray := prog_4_method_1_code
def yX2_init : MethodName := ⟨RX2, "<init>", "()V"⟩
abbrev cX2_remember : ByteArray := prog_4_method_2_code
def yX2_remember : MethodName := ⟨RX2, "remember", "(LGateRow$Row;)V"⟩
abbrev cX2_takeBack : ByteArray := prog_4_method_3_code
def yX2_takeBack : MethodName := ⟨RX2, "takeBack", "(LGateRow$Row;)V"⟩
def RX3 : String := "GateRow$Input"
def TX3 : u_T := fun k => match k with
  | 0 => ("GateRow$Input", "bytes", "[B", true)
  | 1 => ("GateRow$Input", "filled", "I", false)
  | 2 => ("GateRow$Input", "end", "I", false)
  | 3 => ("GateRow$Input", "at", "I", false)
  | 4 => ("GateRow$Input", "kind", "I", false)
  | 5 => ("GateRow$Input", "start", "I", false)
  | 6 => ("GateRow$Input", "number", "I", false)
  | 7 => ("GateRow$Input", "letters", "I", false)
  | _ => ("GateRow$Input", "name", "I", false)
def tyX3 : Nat → FieldType := fun k => match k with
  | 0 => .array .byte
  | 1 => .int
  | 2 => .int
  | 3 => .int
  | 4 => .int
  | 5 => .int
  | 6 => .int
  | 7 => .int
  | _ => .int
theorem nmX3 : ∀ a, a < 9 → ∀ b, b < 9 → a ≠ b → (TX3 a).2.1 ≠ (TX3 b).2.1 := by decide +kernel
theorem tyX3_ok : ∀ k, k < 9 → parseFieldDescriptor (TX3 k).2.2.1 = some (tyX3 k) := by decide +kernel
abbrev cX3_init : ByteArray := prog_5_method_1_code
def yX3_init : MethodName := ⟨RX3, "<init>", "()V"⟩
abbrev cX3_addBytesOf : ByteArray := prog_5_method_2_code
def yX3_addBytesOf : MethodName := ⟨RX3, "addBytesOf", "(I)V"⟩
abbrev cX3_beginText : ByteArray := prog_5_method_3_code
def yX3_beginText : MethodName := ⟨RX3, "beginText", "(I)V"⟩
abbrev cX3_advance : ByteArray := prog_5_method_4_code
def yX3_advance : MethodName := ⟨RX3, "advance", "()V"⟩
abbrev cX3_readNumber : ByteArray := prog_5_method_5_code
def yX3_readNumber : MethodName := ⟨RX3, "readNumber", "()V"⟩
abbrev cX3_readWord : ByteArray := prog_5_method_6_code
def yX3_readWord : MethodName := ⟨RX3, "readWord", "()V"⟩
abbrev cX3_isWord : ByteArray := prog_5_method_7_code
def yX3_isWord : MethodName := ⟨RX3, "isWord", "(Ljava/lang/String;)Z"⟩
abbrev cX3_nameOfFirst : ByteArray := prog_5_method_8_code
def yX3_nameOfFirst : MethodName := ⟨RX3, "nameOfFirst", "(I)I"⟩
abbrev cX3_byteAt : ByteArray := prog_5_method_9_code
def yX3_byteAt : MethodName := ⟨RX3, "byteAt", "(I)I"⟩
abbrev cX3_nameWith : ByteArray := prog_5_method_10_code
def yX3_nameWith : MethodName := ⟨RX3, "nameWith", "(II)I"⟩
abbrev cX3_isDigit : ByteArray := prog_5_method_11_code
def yX3_isDigit : MethodName := ⟨RX3, "isDigit", "(I)Z"⟩
abbrev cX3_isLetter : ByteArray := prog_5_method_12_code
def yX3_isLetter : MethodName := ⟨RX3, "isLetter", "(I)Z"⟩
def RX4 : String := "GateRow$Line"
def TX4 : u_T := fun k => match k with
  | 0 => ("GateRow$Line", "people", "[I", true)
  | _ => ("GateRow$Line", "size", "I", false)
def tyX4 : Nat → FieldType := fun k => match k with
  | 0 => .array .int
  | _ => .int
theorem nmX4 : ∀ a, a < 2 → ∀ b, b < 2 → a ≠ b → (TX4 a).2.1 ≠ (TX4 b).2.1 := by decide +kernel
theorem tyX4_ok : ∀ k, k < 2 → parseFieldDescriptor (TX4 k).2.2.1 = some (tyX4 k) := by decide +kernel
abbrev cX4_init : ByteArray := prog_6_method_1_code
def yX4_init : MethodName := ⟨RX4, "<init>", "()V"⟩
abbrev cX4_copyFrom : ByteArray := prog_6_method_2_code
def yX4_copyFrom : MethodName := ⟨RX4, "copyFrom", "(LGateRow$Line;)V"⟩
abbrev cX4_isFull : ByteArray := prog_6_method_3_code
def yX4_isFull : MethodName := ⟨RX4, "isFull", "()Z"⟩
abbrev cX4_hasPlace : ByteArray := prog_6_method_4_code
def yX4_hasPlace : MethodName := ⟨RX4, "hasPlace", "(I)Z"⟩
abbrev cX4_cardAt : ByteArray := prog_6_method_5_code
def yX4_cardAt : MethodName := ⟨RX4, "cardAt", "(I)I"⟩
abbrev cX4_placeOf : ByteArray := prog_6_method_6_code
def yX4_placeOf : MethodName := ⟨RX4, "placeOf", "(I)I"⟩
abbrev cX4_firstPlaceWithCard : ByteArray := prog_6_method_7_code
def yX4_firstPlaceWithCard : MethodName := ⟨RX4, "firstPlaceWithCard", "()I"⟩
abbrev cX4_isFirstWithoutCard : ByteArray := prog_6_method_8_code
def yX4_isFirstWithoutCard : MethodName := ⟨RX4, "isFirstWithoutCard", "()Z"⟩
abbrev cX4_addLast : ByteArray := prog_6_method_9_code
def yX4_addLast : MethodName := ⟨RX4, "addLast", "(I)V"⟩
abbrev cX4_removeAt : ByteArray := prog_6_method_10_code
def yX4_removeAt : MethodName := ⟨RX4, "removeAt", "(I)I"⟩
abbrev cX4_bringToFront : ByteArray := prog_6_method_11_code
def yX4_bringToFront : MethodName := ⟨RX4, "bringToFront", "(I)V"⟩
def RX5 : String := "GateRow$Row"
def TX5 : u_T := fun k => match k with
  | 0 => ("GateRow$Row", "gates", "[LGateRow$Gate;", true)
  | 1 => ("GateRow$Row", "cards", "[LGateRow$Card;", true)
  | 2 => ("GateRow$Row", "gateCount", "I", false)
  | 3 => ("GateRow$Row", "cardCount", "I", false)
  | 4 => ("GateRow$Row", "hold", "I", false)
  | 5 => ("GateRow$Row", "flow", "I", false)
  | 6 => ("GateRow$Row", "keyBits", "I", false)
  | 7 => ("GateRow$Row", "ticks", "I", false)
  | 8 => ("GateRow$Row", "inside", "I", false)
  | 9 => ("GateRow$Row", "wentIn", "I", false)
  | 10 => ("GateRow$Row", "wentOut", "I", false)
  | 11 => ("GateRow$Row", "followers", "I", false)
  | 12 => ("GateRow$Row", "wentAway", "I", false)
  | 13 => ("GateRow$Row", "wentAwayInside", "I", false)
  | 14 => ("GateRow$Row", "refusedToJoin", "I", false)
  | _ => ("GateRow$Row", "wentOutInPanic", "I", false)
def tyX5 : Nat → FieldType := fun k => match k with
  | 0 => .array (.object "GateRow$Gate")
  | 1 => .array (.object "GateRow$Card")
  | 2 => .int
  | 3 => .int
  | 4 => .int
  | 5 => .int
  | 6 => .int
  | 7 => .int
  | 8 => .int
  | 9 => .int
  | 10 => .int
  | 11 => .int
  | 12 => .int
  | 13 => .int
  | 14 => .int
  | _ => .int
theorem nmX5 : ∀ a, a < 16 → ∀ b, b < 16 → a ≠ b → (TX5 a).2.1 ≠ (TX5 b).2.1 := by decide +kernel
theorem tyX5_ok : ∀ k, k < 16 → parseFieldDescriptor (TX5 k).2.2.1 = some (tyX5 k) := by decide +kernel
abbrev cX5_init : ByteArray := prog_7_method_1_code
def yX5_init : MethodName := ⟨RX5, "<init>", "()V"⟩
abbrev cX5_copyFrom : ByteArray := prog_7_method_2_code
def yX5_copyFrom : MethodName := ⟨RX5, "copyFrom", "(LGateRow$Row;)V"⟩
abbrev cX5_hasGate : ByteArray := prog_7_method_3_code
def yX5_hasGate : MethodName := ⟨RX5, "hasGate", "(I)Z"⟩
abbrev cX5_hasCard : ByteArray := prog_7_method_4_code
def yX5_hasCard : MethodName := ⟨RX5, "hasCard", "(I)Z"⟩
abbrev cX5_canTakeGate : ByteArray := prog_7_method_5_code
def yX5_canTakeGate : MethodName := ⟨RX5, "canTakeGate", "()Z"⟩
abbrev cX5_canTakeCard : ByteArray := prog_7_method_6_code
def yX5_canTakeCard : MethodName := ⟨RX5, "canTakeCard", "()Z"⟩
abbrev cX5_addGate : ByteArray := prog_7_method_7_code
def yX5_addGate : MethodName := ⟨RX5, "addGate", "(I)V"⟩
abbrev cX5_addCard : ByteArray := prog_7_method_8_code
def yX5_addCard : MethodName := ⟨RX5, "addCard", "(II)V"⟩
abbrev cX5_cardNamed : ByteArray := prog_7_method_9_code
def yX5_cardNamed : MethodName := ⟨RX5, "cardNamed", "(I)I"⟩
abbrev cX5_numberOfState : ByteArray := prog_7_method_10_code
def yX5_numberOfState : MethodName := ⟨RX5, "numberOfState", "(I)I"⟩
abbrev cX5_numberOfCard : ByteArray := prog_7_method_11_code
def yX5_numberOfCard : MethodName := ⟨RX5, "numberOfCard", "(II)I"⟩
abbrev cX5_gateWithInLine : ByteArray := prog_7_method_12_code
def yX5_gateWithInLine : MethodName := ⟨RX5, "gateWithInLine", "(I)I"⟩
abbrev cX5_sideInLine : ByteArray := prog_7_method_13_code
def yX5_sideInLine : MethodName := ⟨RX5, "sideInLine", "(I)I"⟩
abbrev cX5_placeInLine : ByteArray := prog_7_method_14_code
def yX5_placeInLine : MethodName := ⟨RX5, "placeInLine", "(I)I"⟩
abbrev cX5_peopleInAllLines : ByteArray := prog_7_method_15_code
def yX5_peopleInAllLines : MethodName := ⟨RX5, "peopleInAllLines", "()I"⟩
abbrev cX5_peopleInInnerLines : ByteArray := prog_7_method_16_code
def yX5_peopleInInnerLines : MethodName := ⟨RX5, "peopleInInnerLines", "()I"⟩
abbrev cX5_openGates : ByteArray := prog_7_method_17_code
def yX5_openGates : MethodName := ⟨RX5, "openGates", "()I"⟩
abbrev cX5_listedCards : ByteArray := prog_7_method_18_code
def yX5_listedCards : MethodName := ⟨RX5, "listedCards", "()I"⟩
abbrev cX5_cardsInTwoLines : ByteArray := prog_7_method_19_code
def yX5_cardsInTwoLines : MethodName := ⟨RX5, "cardsInTwoLines", "()I"⟩
abbrev cX5_peopleNotServed : ByteArray := prog_7_method_20_code
def yX5_peopleNotServed : MethodName := ⟨RX5, "peopleNotServed", "()I"⟩
abbrev cX5_gatesAheadOf : ByteArray := prog_7_method_21_code
def yX5_gatesAheadOf : MethodName := ⟨RX5, "gatesAheadOf", "(I)I"⟩
abbrev cX5_reasonNotToJoin : ByteArray := prog_7_method_22_code
def yX5_reasonNotToJoin : MethodName := ⟨RX5, "reasonNotToJoin", "(LGateRow$Gate;II)I"⟩
abbrev cX5_turnedKeys : ByteArray := prog_7_method_23_code
def yX5_turnedKeys : MethodName := ⟨RX5, "turnedKeys", "()I"⟩
abbrev cX5_isPanic : ByteArray := prog_7_method_24_code
def yX5_isPanic : MethodName := ⟨RX5, "isPanic", "()Z"⟩
abbrev cX5_turnKey : ByteArray := prog_7_method_25_code
def yX5_turnKey : MethodName := ⟨RX5, "turnKey", "(I)V"⟩
abbrev cX5_passTicks : ByteArray := prog_7_method_26_code
def yX5_passTicks : MethodName := ⟨RX5, "passTicks", "(I)V"⟩
abbrev cX5_letOutInPanic : ByteArray := prog_7_method_27_code
def yX5_letOutInPanic : MethodName := ⟨RX5, "letOutInPanic", "(LGateRow$Line;)V"⟩
abbrev cX5_letThroughPaddles : ByteArray := prog_7_method_28_code
def yX5_letThroughPaddles : MethodName := ⟨RX5, "letThroughPaddles", "(LGateRow$Gate;)V"⟩
abbrev cX5_goThrough : ByteArray := prog_7_method_29_code
def yX5_goThrough : MethodName := ⟨RX5, "goThrough", "(II)V"⟩
abbrev cX5_serveNext : ByteArray := prog_7_method_30_code
def yX5_serveNext : MethodName := ⟨RX5, "serveNext", "(LGateRow$Gate;)V"⟩
def RX6 : String := "GateRow$SetupReader"
def TX6 : u_T := fun k => match k with
  | 0 => ("GateRow$SetupReader", "error", "I", false)
  | _ => ("GateRow$SetupReader", "errorAt", "I", false)
def tyX6 : Nat → FieldType := fun k => match k with
  | 0 => .int
  | _ => .int
theorem nmX6 : ∀ a, a < 2 → ∀ b, b < 2 → a ≠ b → (TX6 a).2.1 ≠ (TX6 b).2.1 := by decide +kernel
theorem tyX6_ok : ∀ k, k < 2 → parseFieldDescriptor (TX6 k).2.2.1 = some (tyX6 k) := by decide +kernel
abbrev cX6_init : ByteArray := prog_8_method_1_code
def yX6_init : MethodName := ⟨RX6, "<init>", "()V"⟩
abbrev cX6_readSetup : ByteArray := prog_8_method_2_code
def yX6_readSetup : MethodName := ⟨RX6, "readSetup", "(LGateRow$Input;LGateRow$Row;)Z"⟩
abbrev cX6_readHead : ByteArray := prog_8_method_3_code
def yX6_readHead : MethodName := ⟨RX6, "readHead", "(LGateRow$Input;LGateRow$Row;)Z"⟩
abbrev cX6_readGate : ByteArray := prog_8_method_4_code
def yX6_readGate : MethodName := ⟨RX6, "readGate", "(LGateRow$Input;LGateRow$Row;)Z"⟩
abbrev cX6_readCard : ByteArray := prog_8_method_5_code
def yX6_readCard : MethodName := ⟨RX6, "readCard", "(LGateRow$Input;LGateRow$Row;)Z"⟩
abbrev cX6_readList : ByteArray := prog_8_method_6_code
def yX6_readList : MethodName := ⟨RX6, "readList", "(LGateRow$Input;LGateRow$Row;)Z"⟩
abbrev cX6_readWait : ByteArray := prog_8_method_7_code
def yX6_readWait : MethodName := ⟨RX6, "readWait", "(LGateRow$Input;LGateRow$Row;)Z"⟩
abbrev cX6_readTick : ByteArray := prog_8_method_8_code
def yX6_readTick : MethodName := ⟨RX6, "readTick", "(LGateRow$Input;LGateRow$Row;)Z"⟩
abbrev cX6_readKey : ByteArray := prog_8_method_9_code
def yX6_readKey : MethodName := ⟨RX6, "readKey", "(LGateRow$Input;LGateRow$Row;)Z"⟩
abbrev cX6_takeSemicolon : ByteArray := prog_8_method_10_code
def yX6_takeSemicolon : MethodName := ⟨RX6, "takeSemicolon", "(LGateRow$Input;)Z"⟩
abbrev cX6_takeNumber : ByteArray := prog_8_method_11_code
def yX6_takeNumber : MethodName := ⟨RX6, "takeNumber", "(LGateRow$Input;II)I"⟩
abbrev cX6_takeKnownCard : ByteArray := prog_8_method_12_code
def yX6_takeKnownCard : MethodName := ⟨RX6, "takeKnownCard", "(LGateRow$Input;LGateRow$Row;)I"⟩
abbrev cX6_isNameNext : ByteArray := prog_8_method_13_code
def yX6_isNameNext : MethodName := ⟨RX6, "isNameNext", "(LGateRow$Input;)Z"⟩
abbrev cX6_fail : ByteArray := prog_8_method_14_code
def yX6_fail : MethodName := ⟨RX6, "fail", "(II)Z"⟩
def RX7 : String := "GateRow"
def TX7 : u_T := fun k => match k with
  | 0 => ("GateRow", "input", "LGateRow$Input;", true)
  | 1 => ("GateRow", "reader", "LGateRow$SetupReader;", true)
  | 2 => ("GateRow", "now", "LGateRow$Row;", true)
  | 3 => ("GateRow", "blank", "LGateRow$Row;", true)
  | 4 => ("GateRow", "trial", "LGateRow$Row;", true)
  | 5 => ("GateRow", "history", "LGateRow$History;", true)
  | _ => ("GateRow", "errorAt", "I", false)
def tyX7 : Nat → FieldType := fun k => match k with
  | 0 => .object "GateRow$Input"
  | 1 => .object "GateRow$SetupReader"
  | 2 => .object "GateRow$Row"
  | 3 => .object "GateRow$Row"
  | 4 => .object "GateRow$Row"
  | 5 => .object "GateRow$History"
  | _ => .int
theorem nmX7 : ∀ a, a < 7 → ∀ b, b < 7 → a ≠ b → (TX7 a).2.1 ≠ (TX7 b).2.1 := by decide +kernel
theorem tyX7_ok : ∀ k, k < 7 → parseFieldDescriptor (TX7 k).2.2.1 = some (tyX7 k) := by decide +kernel
abbrev cX7_init : ByteArray := prog_1_method_1_code
def yX7_init : MethodName := ⟨RX7, "<init>", "()V"⟩
abbrev cX7_append : ByteArray := prog_1_method_2_code
def yX7_append : MethodName := ⟨RX7, "append", "(IIIII)I"⟩
abbrev cX7_load : ByteArray := prog_1_method_3_code
def yX7_load : MethodName := ⟨RX7, "load", "(I)I"⟩
abbrev cX7_errorOffset : ByteArray := prog_1_method_4_code
def yX7_errorOffset : MethodName := ⟨RX7, "errorOffset", "()I"⟩
abbrev cX7_state : ByteArray := prog_1_method_5_code
def yX7_state : MethodName := ⟨RX7, "state", "(I)I"⟩
abbrev cX7_find : ByteArray := prog_1_method_6_code
def yX7_find : MethodName := ⟨RX7, "find", "(I)I"⟩
abbrev cX7_gate : ByteArray := prog_1_method_7_code
def yX7_gate : MethodName := ⟨RX7, "gate", "(II)I"⟩
abbrev cX7_card : ByteArray := prog_1_method_8_code
def yX7_card : MethodName := ⟨RX7, "card", "(II)I"⟩
abbrev cX7_inLine : ByteArray := prog_1_method_9_code
def yX7_inLine : MethodName := ⟨RX7, "inLine", "(III)I"⟩
abbrev cX7_why : ByteArray := prog_1_method_10_code
def yX7_why : MethodName := ⟨RX7, "why", "(II)I"⟩
abbrev cX7_whyNotJoin : ByteArray := prog_1_method_11_code
def yX7_whyNotJoin : MethodName := ⟨RX7, "whyNotJoin", "(III)I"⟩
abbrev cX7_bestGate : ByteArray := prog_1_method_12_code
def yX7_bestGate : MethodName := ⟨RX7, "bestGate", "(I)I"⟩
abbrev cX7_nextSide : ByteArray := prog_1_method_13_code
def yX7_nextSide : MethodName := ⟨RX7, "nextSide", "(I)I"⟩
abbrev cX7_throughIn : ByteArray := prog_1_method_14_code
def yX7_throughIn : MethodName := ⟨RX7, "throughIn", "(I)I"⟩
abbrev cX7_insideIn : ByteArray := prog_1_method_15_code
def yX7_insideIn : MethodName := ⟨RX7, "insideIn", "(I)I"⟩
abbrev cX7_followersIn : ByteArray := prog_1_method_16_code
def yX7_followersIn : MethodName := ⟨RX7, "followersIn", "(I)I"⟩
abbrev cX7_ranked : ByteArray := prog_1_method_18_code
def yX7_ranked : MethodName := ⟨RX7, "ranked", "(I)I"⟩
abbrev cX7_gap : ByteArray := prog_1_method_19_code
def yX7_gap : MethodName := ⟨RX7, "gap", "()I"⟩
abbrev cX7_join : ByteArray := prog_1_method_21_code
def yX7_join : MethodName := ⟨RX7, "join", "(III)I"⟩
abbrev cX7_leave : ByteArray := prog_1_method_22_code
def yX7_leave : MethodName := ⟨RX7, "leave", "(III)I"⟩
abbrev cX7_list : ByteArray := prog_1_method_23_code
def yX7_list : MethodName := ⟨RX7, "list", "(IZ)I"⟩
abbrev cX7_charge : ByteArray := prog_1_method_24_code
def yX7_charge : MethodName := ⟨RX7, "charge", "(II)I"⟩
abbrev cX7_mode : ByteArray := prog_1_method_25_code
def yX7_mode : MethodName := ⟨RX7, "mode", "(II)I"⟩
abbrev cX7_key : ByteArray := prog_1_method_26_code
def yX7_key : MethodName := ⟨RX7, "key", "(I)I"⟩
abbrev cX7_tick : ByteArray := prog_1_method_27_code
def yX7_tick : MethodName := ⟨RX7, "tick", "(I)I"⟩
abbrev cX7_undo : ByteArray := prog_1_method_28_code
def yX7_undo : MethodName := ⟨RX7, "undo", "()I"⟩
abbrev cX7_checksum : ByteArray := prog_1_method_29_code
def yX7_checksum : MethodName := ⟨RX7, "checksum", "()J"⟩
abbrev cX7_withLine : ByteArray := prog_1_method_30_code
def yX7_withLine : MethodName := ⟨RX7, "withLine", "(JLGateRow$Line;)J"⟩
abbrev cX7_requireBuffered : ByteArray := prog_1_method_31_code
def yX7_requireBuffered : MethodName := ⟨RX7, "requireBuffered", "(I)V"⟩
abbrev cX7_requireGate : ByteArray := prog_1_method_32_code
def yX7_requireGate : MethodName := ⟨RX7, "requireGate", "(I)V"⟩
abbrev cX7_requireCard : ByteArray := prog_1_method_33_code
def yX7_requireCard : MethodName := ⟨RX7, "requireCard", "(I)V"⟩
abbrev cX7_requireCardOrNone : ByteArray := prog_1_method_34_code
def yX7_requireCardOrNone : MethodName := ⟨RX7, "requireCardOrNone", "(I)V"⟩
abbrev cX7_requireSide : ByteArray := prog_1_method_35_code
def yX7_requireSide : MethodName := ⟨RX7, "requireSide", "(I)V"⟩
abbrev cX7_requireTicks : ByteArray := prog_1_method_36_code
def yX7_requireTicks : MethodName := ⟨RX7, "requireTicks", "(II)V"⟩
def RX8 : String := "GateRowLaw$Card"
def TX8 : u_T := fun k => match k with
  | 0 => ("GateRowLaw$Card", "trips", "I", false)
  | 1 => ("GateRowLaw$Card", "isInside", "Z", false)
  | 2 => ("GateRowLaw$Card", "isListed", "Z", false)
  | _ => ("GateRowLaw$Card", "times", "I", false)
def tyX8 : Nat → FieldType := fun k => match k with
  | 0 => .int
  | 1 => .boolean
  | 2 => .boolean
  | _ => .int
theorem nmX8 : ∀ a, a < 4 → ∀ b, b < 4 → a ≠ b → (TX8 a).2.1 ≠ (TX8 b).2.1 := by decide +kernel
theorem tyX8_ok : ∀ k, k < 4 → parseFieldDescriptor (TX8 k).2.2.1 = some (tyX8 k) := by decide +kernel
abbrev cX8_init : ByteArray := prog_10_method_1_code
def yX8_init : MethodName := ⟨RX8, "<init>", "(I)V"⟩
def RX9 : String := "GateRowLaw$Gate"
def TX9 : u_T := fun k => match k with
  | 0 => ("GateRowLaw$Gate", "mode", "I", false)
  | 1 => ("GateRowLaw$Gate", "open", "I", false)
  | 2 => ("GateRowLaw$Gate", "side", "I", false)
  | 3 => ("GateRowLaw$Gate", "isDue", "Z", false)
  | 4 => ("GateRowLaw$Gate", "alarms", "I", false)
  | 5 => ("GateRowLaw$Gate", "opened", "I", false)
  | 6 => ("GateRowLaw$Gate", "latest", "I", false)
  | 7 => ("GateRowLaw$Gate", "outside", "LGateRowLaw$Line;", false)
  | _ => ("GateRowLaw$Gate", "inside", "LGateRowLaw$Line;", false)
def tyX9 : Nat → FieldType := fun k => match k with
  | 0 => .int
  | 1 => .int
  | 2 => .int
  | 3 => .boolean
  | 4 => .int
  | 5 => .int
  | 6 => .int
  | 7 => .object "GateRowLaw$Line"
  | _ => .object "GateRowLaw$Line"
theorem nmX9 : ∀ a, a < 9 → ∀ b, b < 9 → a ≠ b → (TX9 a).2.1 ≠ (TX9 b).2.1 := by decide +kernel
theorem tyX9_ok : ∀ k, k < 9 → parseFieldDescriptor (TX9 k).2.2.1 = some (tyX9 k) := by decide +kernel
abbrev cX9_init : ByteArray := prog_11_method_1_code
def yX9_init : MethodName := ⟨RX9, "<init>", "(I)V"⟩
abbrev cX9_line : ByteArray := prog_11_method_2_code
def yX9_line : MethodName := ⟨RX9, "line", "(I)LGateRowLaw$Line;"⟩
abbrev cX9_serves : ByteArray := prog_11_method_3_code
def yX9_serves : MethodName := ⟨RX9, "serves", "(I)Z"⟩
abbrev cX9_close : ByteArray := prog_11_method_4_code
def yX9_close : MethodName := ⟨RX9, "close", "()V"⟩
abbrev cX9_next : ByteArray := prog_11_method_5_code
def yX9_next : MethodName := ⟨RX9, "next", "()I"⟩
abbrev cX9_copy : ByteArray := prog_11_method_6_code
def yX9_copy : MethodName := ⟨RX9, "copy", "()LGateRowLaw$Gate;"⟩
def RX10 : String := "GateRowLaw$Line"
def TX10 : u_T := fun k => match k with
  | 0 => ("GateRowLaw$Line", "many", "I", false)
  | _ => ("GateRowLaw$Line", "cards", "[I", false)
def tyX10 : Nat → FieldType := fun k => match k with
  | 0 => .int
  | _ => .array .int
theorem nmX10 : ∀ a, a < 2 → ∀ b, b < 2 → a ≠ b → (TX10 a).2.1 ≠ (TX10 b).2.1 := by decide +kernel
theorem tyX10_ok : ∀ k, k < 2 → parseFieldDescriptor (TX10 k).2.2.1 = some (tyX10 k) := by decide +kernel
abbrev cX10_init : ByteArray := prog_12_method_1_code
def yX10_init : MethodName := ⟨RX10, "<init>", "()V"⟩
abbrev cX10_add : ByteArray := prog_12_method_2_code
def yX10_add : MethodName := ⟨RX10, "add", "(I)V"⟩
abbrev cX10_take : ByteArray := prog_12_method_3_code
def yX10_take : MethodName := ⟨RX10, "take", "(I)I"⟩
abbrev cX10_lead : ByteArray := prog_12_method_4_code
def yX10_lead : MethodName := ⟨RX10, "lead", "(I)V"⟩
abbrev cX10_placeOf : ByteArray := prog_12_method_5_code
def yX10_placeOf : MethodName := ⟨RX10, "placeOf", "(I)I"⟩
abbrev cX10_firstCard : ByteArray := prog_12_method_6_code
def yX10_firstCard : MethodName := ⟨RX10, "firstCard", "()I"⟩
abbrev cX10_copy : ByteArray := prog_12_method_7_code
def yX10_copy : MethodName := ⟨RX10, "copy", "()LGateRowLaw$Line;"⟩
def RX11 : String := "GateRowLaw$Random"
def TX11 : u_T := fun k => match k with
  | _ => ("GateRowLaw$Random", "seed", "I", false)
def tyX11 : Nat → FieldType := fun k => match k with
  | _ => .int
theorem nmX11 : ∀ a, a < 1 → ∀ b, b < 1 → a ≠ b → (TX11 a).2.1 ≠ (TX11 b).2.1 := by decide +kernel
theorem tyX11_ok : ∀ k, k < 1 → parseFieldDescriptor (TX11 k).2.2.1 = some (tyX11 k) := by decide +kernel
abbrev cX11_init : ByteArray := prog_13_method_1_code
def yX11_init : MethodName := ⟨RX11, "<init>", "(I)V"⟩
abbrev cX11_below : ByteArray := prog_13_method_2_code
def yX11_below : MethodName := ⟨RX11, "below", "(I)I"⟩
def RX12 : String := "GateRowLaw$Station"
def TX12 : u_T := fun k => match k with
  | 0 => ("GateRowLaw$Station", "hold", "I", false)
  | 1 => ("GateRowLaw$Station", "flow", "I", false)
  | 2 => ("GateRowLaw$Station", "ticks", "I", false)
  | 3 => ("GateRowLaw$Station", "within", "I", false)
  | 4 => ("GateRowLaw$Station", "many", "I", false)
  | 5 => ("GateRowLaw$Station", "gates", "[LGateRowLaw$Gate;", false)
  | 6 => ("GateRowLaw$Station", "cards", "I", false)
  | 7 => ("GateRowLaw$Station", "all", "[LGateRowLaw$Card;", false)
  | 8 => ("GateRowLaw$Station", "keys", "[Z", false)
  | 9 => ("GateRowLaw$Station", "wentIn", "I", false)
  | 10 => ("GateRowLaw$Station", "wentOut", "I", false)
  | 11 => ("GateRowLaw$Station", "followers", "I", false)
  | 12 => ("GateRowLaw$Station", "away", "I", false)
  | 13 => ("GateRowLaw$Station", "refused", "I", false)
  | _ => ("GateRowLaw$Station", "fled", "I", false)
def tyX12 : Nat → FieldType := fun k => match k with
  | 0 => .int
  | 1 => .int
  | 2 => .int
  | 3 => .int
  | 4 => .int
  | 5 => .array (.object "GateRowLaw$Gate")
  | 6 => .int
  | 7 => .array (.object "GateRowLaw$Card")
  | 8 => .array .boolean
  | 9 => .int
  | 10 => .int
  | 11 => .int
  | 12 => .int
  | 13 => .int
  | _ => .int
theorem nmX12 : ∀ a, a < 15 → ∀ b, b < 15 → a ≠ b → (TX12 a).2.1 ≠ (TX12 b).2.1 := by decide +kernel
theorem tyX12_ok : ∀ k, k < 15 → parseFieldDescriptor (TX12 k).2.2.1 = some (tyX12 k) := by decide +kernel
abbrev cX12_init : ByteArray := prog_14_method_1_code
def yX12_init : MethodName := ⟨RX12, "<init>", "()V"⟩
abbrev cX12_copy : ByteArray := prog_14_method_2_code
def yX12_copy : MethodName := ⟨RX12, "copy", "()LGateRowLaw$Station;"⟩
abbrev cX12_turned : ByteArray := prog_14_method_3_code
def yX12_turned : MethodName := ⟨RX12, "turned", "()I"⟩
abbrev cX12_isPanic : ByteArray := prog_14_method_4_code
def yX12_isPanic : MethodName := ⟨RX12, "isPanic", "()Z"⟩
abbrev cX12_key : ByteArray := prog_14_method_5_code
def yX12_key : MethodName := ⟨RX12, "key", "(I)I"⟩
abbrev cX12_refusal : ByteArray := prog_14_method_6_code
def yX12_refusal : MethodName := ⟨RX12, "refusal", "(II)I"⟩
abbrev cX12_pass : ByteArray := prog_14_method_7_code
def yX12_pass : MethodName := ⟨RX12, "pass", "(LGateRowLaw$Gate;IZ)V"⟩
abbrev cX12_serve : ByteArray := prog_14_method_8_code
def yX12_serve : MethodName := ⟨RX12, "serve", "(LGateRowLaw$Gate;)V"⟩
abbrev cX12_tick : ByteArray := prog_14_method_9_code
def yX12_tick : MethodName := ⟨RX12, "tick", "(I)I"⟩
abbrev cX12_waiting : ByteArray := prog_14_method_10_code
def yX12_waiting : MethodName := ⟨RX12, "waiting", "(I)I"⟩
abbrev cX12_where : ByteArray := prog_14_method_11_code
def yX12_where : MethodName := ⟨RX12, "where", "(I)I"⟩
abbrev cX12_whyNot : ByteArray := prog_14_method_12_code
def yX12_whyNot : MethodName := ⟨RX12, "whyNot", "(III)I"⟩
abbrev cX12_join : ByteArray := prog_14_method_13_code
def yX12_join : MethodName := ⟨RX12, "join", "(III)I"⟩
abbrev cX12_told : ByteArray := prog_14_method_14_code
def yX12_told : MethodName := ⟨RX12, "told", "(I)I"⟩
abbrev cX12_ofGate : ByteArray := prog_14_method_15_code
def yX12_ofGate : MethodName := ⟨RX12, "ofGate", "(II)I"⟩
abbrev cX12_ofCard : ByteArray := prog_14_method_16_code
def yX12_ofCard : MethodName := ⟨RX12, "ofCard", "(II)I"⟩
abbrev cX12_checksum : ByteArray := prog_14_method_17_code
def yX12_checksum : MethodName := ⟨RX12, "checksum", "()J"⟩
def RX13 : String := "GateRowModel"
def TX13 : u_T := fun k => match k with
  | _ => ("", "", "", false)
def tyX13 : Nat → FieldType := fun k => match k with
  | _ => .int
theorem nmX13 : ∀ a, a < 0 → ∀ b, b < 0 → a ≠ b → (TX13 a).2.1 ≠ (TX13 b).2.1 := by decide +kernel
theorem tyX13_ok : ∀ k, k < 0 → parseFieldDescriptor (TX13 k).2.2.1 = some (tyX13 k) := by decide +kernel
def RJx145de : String := "java/io/Serializable"
def TJx145de : u_T := fun k => match k with
  | _ => ("", "", "", false)
def tyJx145de : Nat → FieldType := fun k => match k with
  | _ => .int
theorem nmJx145de : ∀ a, a < 0 → ∀ b, b < 0 → a ≠ b → (TJx145de a).2.1 ≠ (TJx145de b).2.1 := by decide +kernel
theorem tyJx145de_ok : ∀ k, k < 0 → parseFieldDescriptor (TJx145de k).2.2.1 = some (tyJx145de k) := by decide +kernel
def RJx9f9b0 : String := "java/lang/CharSequence"
def TJx9f9b0 : u_T := fun k => match k with
  | _ => ("", "", "", false)
def tyJx9f9b0 : Nat → FieldType := fun k => match k with
  | _ => .int
theorem nmJx9f9b0 : ∀ a, a < 0 → ∀ b, b < 0 → a ≠ b → (TJx9f9b0 a).2.1 ≠ (TJx9f9b0 b).2.1 := by decide +kernel
theorem tyJx9f9b0_ok : ∀ k, k < 0 → parseFieldDescriptor (TJx9f9b0 k).2.2.1 = some (tyJx9f9b0 k) := by decide +kernel
def RJxb160c : String := "java/lang/Comparable"
def TJxb160c : u_T := fun k => match k with
  | _ => ("", "", "", false)
def tyJxb160c : Nat → FieldType := fun k => match k with
  | _ => .int
theorem nmJxb160c : ∀ a, a < 0 → ∀ b, b < 0 → a ≠ b → (TJxb160c a).2.1 ≠ (TJxb160c b).2.1 := by decide +kernel
theorem tyJxb160c_ok : ∀ k, k < 0 → parseFieldDescriptor (TJxb160c k).2.2.1 = some (tyJxb160c k) := by decide +kernel
def RJ6 : String := "java/lang/Integer"
def TJ6 : u_T := fun k => match k with
  | _ => ("", "", "", false)
def tyJ6 : Nat → FieldType := fun k => match k with
  | _ => .int
theorem nmJ6 : ∀ a, a < 0 → ∀ b, b < 0 → a ≠ b → (TJ6 a).2.1 ≠ (TJ6 b).2.1 := by decide +kernel
theorem tyJ6_ok : ∀ k, k < 0 → parseFieldDescriptor (TJ6 k).2.2.1 = some (tyJ6 k) := by decide +kernel
abbrev cJ6_bitCount_0f7a4 : ByteArray := prog_23_method_49_code
def yJ6_bitCount_0f7a4 : MethodName := ⟨RJ6, "bitCount", "(I)I"⟩
def RJ9 : String := "java/lang/Math"
def TJ9 : u_T := fun k => match k with
  | _ => ("", "", "", false)
def tyJ9 : Nat → FieldType := fun k => match k with
  | _ => .int
theorem nmJ9 : ∀ a, a < 0 → ∀ b, b < 0 → a ≠ b → (TJ9 a).2.1 ≠ (TJ9 b).2.1 := by decide +kernel
theorem tyJ9_ok : ∀ k, k < 0 → parseFieldDescriptor (TJ9 k).2.2.1 = some (tyJ9 k) := by decide +kernel
abbrev cJ9_abs_0f7a4 : ByteArray := prog_24_method_59_code
def yJ9_abs_0f7a4 : MethodName := ⟨RJ9, "abs", "(I)I"⟩
abbrev cJ9_min_7cf53 : ByteArray := prog_24_method_69_code
def yJ9_min_7cf53 : MethodName := ⟨RJ9, "min", "(II)I"⟩
def RJ0 : String := "java/lang/String"
def TJ0 : u_T := fun k => match k with
  | _ => ("", "", "", false)
def tyJ0 : Nat → FieldType := fun k => match k with
  | _ => .int
theorem nmJ0 : ∀ a, a < 0 → ∀ b, b < 0 → a ≠ b → (TJ0 a).2.1 ≠ (TJ0 b).2.1 := by decide +kernel
theorem tyJ0_ok : ∀ k, k < 0 → parseFieldDescriptor (TJ0 k).2.2.1 = some (tyJ0 k) := by decide +kernel
abbrev cJ0_length_8abf5 : ByteArray := prog_26_method_54_code
def yJ0_length_8abf5 : MethodName := ⟨RJ0, "length", "()I"⟩
abbrev cJ0_charAt_5068e : ByteArray := prog_26_method_56_code
def yJ0_charAt_5068e : MethodName := ⟨RJ0, "charAt", "(I)C"⟩
abbrev cJ0_coder_7d493 : ByteArray := prog_26_method_152_code
def yJ0_coder_7d493 : MethodName := ⟨RJ0, "coder", "()B"⟩
abbrev cJ0_isLatin1_aae02 : ByteArray := prog_26_method_154_code
def yJ0_isLatin1_aae02 : MethodName := ⟨RJ0, "isLatin1", "()Z"⟩
abbrev cJ0_checkIndex_df160 : ByteArray := prog_26_method_155_code
def yJ0_checkIndex_df160 : MethodName := ⟨RJ0, "checkIndex", "(II)V"⟩
def RJ1 : String := "java/lang/StringLatin1"
def TJ1 : u_T := fun k => match k with
  | _ => ("", "", "", false)
def tyJ1 : Nat → FieldType := fun k => match k with
  | _ => .int
theorem nmJ1 : ∀ a, a < 0 → ∀ b, b < 0 → a ≠ b → (TJ1 a).2.1 ≠ (TJ1 b).2.1 := by decide +kernel
theorem tyJ1_ok : ∀ k, k < 0 → parseFieldDescriptor (TJ1 k).2.2.1 = some (tyJ1 k) := by decide +kernel
abbrev cJ1_charAt_3b067 : ByteArray := prog_27_method_2_code
def yJ1_charAt_3b067 : MethodName := ⟨RJ1, "charAt", "([BI)C"⟩
def RJ2 : String := "java/lang/StringUTF16"
def TJ2 : u_T := fun k => match k with
  | _ => ("", "", "", false)
def tyJ2 : Nat → FieldType := fun k => match k with
  | _ => .int
theorem nmJ2 : ∀ a, a < 0 → ∀ b, b < 0 → a ≠ b → (TJ2 a).2.1 ≠ (TJ2 b).2.1 := by decide +kernel
theorem tyJ2_ok : ∀ k, k < 0 → parseFieldDescriptor (TJ2 k).2.2.1 = some (tyJ2 k) := by decide +kernel
abbrev cJ2_getChar_3b067 : ByteArray := prog_28_method_5_code
def yJ2_getChar_3b067 : MethodName := ⟨RJ2, "getChar", "([BI)C"⟩
abbrev cJ2_length_9d52b : ByteArray := prog_28_method_6_code
def yJ2_length_9d52b : MethodName := ⟨RJ2, "length", "([B)I"⟩
abbrev cJ2_charAt_3b067 : ByteArray := prog_28_method_83_code
def yJ2_charAt_3b067 : MethodName := ⟨RJ2, "charAt", "([BI)C"⟩
abbrev cJ2_checkIndex_2214a : ByteArray := prog_28_method_91_code
def yJ2_checkIndex_2214a : MethodName := ⟨RJ2, "checkIndex", "(I[B)V"⟩
def RJxfd54e : String := "java/lang/constant/Constable"
def TJxfd54e : u_T := fun k => match k with
  | _ => ("", "", "", false)
def tyJxfd54e : Nat → FieldType := fun k => match k with
  | _ => .int
theorem nmJxfd54e : ∀ a, a < 0 → ∀ b, b < 0 → a ≠ b → (TJxfd54e a).2.1 ≠ (TJxfd54e b).2.1 := by decide +kernel
theorem tyJxfd54e_ok : ∀ k, k < 0 → parseFieldDescriptor (TJxfd54e k).2.2.1 = some (tyJxfd54e k) := by decide +kernel
def RJx3cf43 : String := "java/lang/constant/ConstantDesc"
def TJx3cf43 : u_T := fun k => match k with
  | _ => ("", "", "", false)
def tyJx3cf43 : Nat → FieldType := fun k => match k with
  | _ => .int
theorem nmJx3cf43 : ∀ a, a < 0 → ∀ b, b < 0 → a ≠ b → (TJx3cf43 a).2.1 ≠ (TJx3cf43 b).2.1 := by decide +kernel
theorem tyJx3cf43_ok : ∀ k, k < 0 → parseFieldDescriptor (TJx3cf43 k).2.2.1 = some (tyJx3cf43 k) := by decide +kernel
def RJ3 : String := "jdk/internal/util/Preconditions"
def TJ3 : u_T := fun k => match k with
  | _ => ("", "", "", false)
def tyJ3 : Nat → FieldType := fun k => match k with
  | _ => .int
theorem nmJ3 : ∀ a, a < 0 → ∀ b, b < 0 → a ≠ b → (TJ3 a).2.1 ≠ (TJ3 b).2.1 := by decide +kernel
theorem tyJ3_ok : ∀ k, k < 0 → parseFieldDescriptor (TJ3 k).2.2.1 = some (tyJ3 k) := by decide +kernel
abbrev cJ3_checkIndex_8e157 : ByteArray := prog_33_method_11_code
def yJ3_checkIndex_8e157 : MethodName := ⟨RJ3, "checkIndex", "(IILjava/util/function/BiFunction;)I"⟩
def RL : String := "GateRowLaw"
abbrev cL_put : ByteArray := method_2_code
def yL_put : MethodName := ⟨RL, "put", "(LGateRow;[II)V"⟩
abbrev cL_flush : ByteArray := method_3_code
def yL_flush : MethodName := ⟨RL, "flush", "(LGateRow;[I)V"⟩
abbrev cL_loadText : ByteArray := method_4_code
def yL_loadText : MethodName := ⟨RL, "loadText", "(LGateRow;[I)I"⟩
abbrev cL_write : ByteArray := method_5_code
def yL_write : MethodName := ⟨RL, "write", "(LGateRow;[ILjava/lang/String;)V"⟩
abbrev cL_writeNumber : ByteArray := method_6_code
def yL_writeNumber : MethodName := ⟨RL, "writeNumber", "(LGateRow;[II)V"⟩
abbrev cL_load : ByteArray := method_7_code
def yL_load : MethodName := ⟨RL, "load", "(LGateRow;I)I"⟩
abbrev cL_state : ByteArray := method_8_code
def yL_state : MethodName := ⟨RL, "state", "(LGateRow;I)I"⟩
abbrev cL_find : ByteArray := method_9_code
def yL_find : MethodName := ⟨RL, "find", "(LGateRow;I)I"⟩
abbrev cL_gate : ByteArray := method_10_code
def yL_gate : MethodName := ⟨RL, "gate", "(LGateRow;II)I"⟩
abbrev cL_card : ByteArray := method_11_code
def yL_card : MethodName := ⟨RL, "card", "(LGateRow;II)I"⟩
abbrev cL_inLine : ByteArray := method_12_code
def yL_inLine : MethodName := ⟨RL, "inLine", "(LGateRow;III)I"⟩
abbrev cL_why : ByteArray := method_13_code
def yL_why : MethodName := ⟨RL, "why", "(LGateRow;II)I"⟩
abbrev cL_whyNotJoin : ByteArray := method_14_code
def yL_whyNotJoin : MethodName := ⟨RL, "whyNotJoin", "(LGateRow;III)I"⟩
abbrev cL_bestGate : ByteArray := method_15_code
def yL_bestGate : MethodName := ⟨RL, "bestGate", "(LGateRow;I)I"⟩
abbrev cL_nextSide : ByteArray := method_16_code
def yL_nextSide : MethodName := ⟨RL, "nextSide", "(LGateRow;I)I"⟩
abbrev cL_throughIn : ByteArray := method_17_code
def yL_throughIn : MethodName := ⟨RL, "throughIn", "(LGateRow;I)I"⟩
abbrev cL_insideIn : ByteArray := method_18_code
def yL_insideIn : MethodName := ⟨RL, "insideIn", "(LGateRow;I)I"⟩
abbrev cL_followersIn : ByteArray := method_19_code
def yL_followersIn : MethodName := ⟨RL, "followersIn", "(LGateRow;I)I"⟩
abbrev cL_ranked : ByteArray := method_20_code
def yL_ranked : MethodName := ⟨RL, "ranked", "(LGateRow;I)I"⟩
abbrev cL_join : ByteArray := method_21_code
def yL_join : MethodName := ⟨RL, "join", "(LGateRow;III)I"⟩
abbrev cL_leave : ByteArray := method_22_code
def yL_leave : MethodName := ⟨RL, "leave", "(LGateRow;III)I"⟩
abbrev cL_list : ByteArray := method_23_code
def yL_list : MethodName := ⟨RL, "list", "(LGateRow;IZ)I"⟩
abbrev cL_charge : ByteArray := method_24_code
def yL_charge : MethodName := ⟨RL, "charge", "(LGateRow;II)I"⟩
abbrev cL_mode : ByteArray := method_25_code
def yL_mode : MethodName := ⟨RL, "mode", "(LGateRow;II)I"⟩
abbrev cL_key : ByteArray := method_26_code
def yL_key : MethodName := ⟨RL, "key", "(LGateRow;I)I"⟩
abbrev cL_tick : ByteArray := method_27_code
def yL_tick : MethodName := ⟨RL, "tick", "(LGateRow;I)I"⟩
abbrev cL_randomRow : ByteArray := method_28_code
def yL_randomRow : MethodName := ⟨RL, "randomRow", "(LGateRow;[ILGateRowLaw$Random;)LGateRowLaw$Station;"⟩
abbrev cL_act : ByteArray := method_29_code
def yL_act : MethodName := ⟨RL, "act", "(LGateRow;LGateRowLaw$Station;LGateRowLaw$Random;)I"⟩
abbrev cL_agrees : ByteArray := method_30_code
def yL_agrees : MethodName := ⟨RL, "agrees", "(LGateRow;LGateRowLaw$Station;)Z"⟩
abbrev cL_law : ByteArray := code
def yL_law : MethodName := ⟨RL, "law", "([I)Z"⟩
theorem dX0_init_0 : decode cX0_init 0 = .ok (.aload_n 0, 1) := by decide +kernel
theorem dX0_init_1 : decode cX0_init 1 = .ok (.invokespecial 3, 3) := by decide +kernel
theorem dX0_init_4 : decode cX0_init 4 = .ok (.return_, 1) := by decide +kernel
theorem dX0_copyFrom_0 : decode cX0_copyFrom 0 = .ok (.aload_n 0, 1) := by decide +kernel
theorem dX0_copyFrom_1 : decode cX0_copyFrom 1 = .ok (.aload_n 1, 1) := by decide +kernel
theorem dX0_copyFrom_2 : decode cX0_copyFrom 2 = .ok (.getfield 9, 3) := by decide +kernel
theorem dX0_copyFrom_5 : decode cX0_copyFrom 5 = .ok (.putfield 9, 3) := by decide +kernel
theorem dX0_copyFrom_8 : decode cX0_copyFrom 8 = .ok (.aload_n 0, 1) := by decide +kernel
theorem dX0_copyFrom_9 : decode cX0_copyFrom 9 = .ok (.aload_n 1, 1) := by decide +kernel
theorem dX0_copyFrom_10 : decode cX0_copyFrom 10 = .ok (.getfield 15, 3) := by decide +kernel
theorem dX0_copyFrom_13 : decode cX0_copyFrom 13 = .ok (.putfield 15, 3) := by decide +kernel
theorem dX0_copyFrom_16 : decode cX0_copyFrom 16 = .ok (.aload_n 0, 1) := by decide +kernel
theorem dX0_copyFrom_17 : decode cX0_copyFrom 17 = .ok (.aload_n 1, 1) := by decide +kernel
theorem dX0_copyFrom_18 : decode cX0_copyFrom 18 = .ok (.getfield 18, 3) := by decide +kernel
theorem dX0_copyFrom_21 : decode cX0_copyFrom 21 = .ok (.putfield 18, 3) := by decide +kernel
theorem dX0_copyFrom_24 : decode cX0_copyFrom 24 = .ok (.aload_n 0, 1) := by decide +kernel
theorem dX0_copyFrom_25 : decode cX0_copyFrom 25 = .ok (.aload_n 1, 1) := by decide +kernel
theorem dX0_copyFrom_26 : decode cX0_copyFrom 26 = .ok (.getfield 22, 3) := by decide +kernel
theorem dX0_copyFrom_29 : decode cX0_copyFrom 29 = .ok (.putfield 22, 3) := by decide +kernel
theorem dX0_copyFrom_32 : decode cX0_copyFrom 32 = .ok (.aload_n 0, 1) := by decide +kernel
theorem dX0_copyFrom_33 : decode cX0_copyFrom 33 = .ok (.aload_n 1, 1) := by decide +kernel
theorem dX0_copyFrom_34 : decode cX0_copyFrom 34 = .ok (.getfield 25, 3) := by decide +kernel
theorem dX0_copyFrom_37 : decode cX0_copyFrom 37 = .ok (.putfield 25, 3) := by decide +kernel
theorem dX0_copyFrom_40 : decode cX0_copyFrom 40 = .ok (.return_, 1) := by decide +kernel
theorem dX0_reasonAgainst_0 : decode cX0_reasonAgainst 0 = .ok (.aload_n 0, 1) := by decide +kernel
theorem dX0_reasonAgainst_1 : decode cX0_reasonAgainst 1 = .ok (.getfield 22, 3) := by decide +kernel
theorem dX0_reasonAgainst_4 : decode cX0_reasonAgainst 4 = .ok (.ifCond .eq 5, 3) := by decide +kernel
theorem dX0_reasonAgainst_7 : decode cX0_reasonAgainst 7 = .ok (.iconst 1, 1) := by decide +kernel
theorem dX0_reasonAgainst_8 : decode cX0_reasonAgainst 8 = .ok (.ireturn, 1) := by decide +kernel
theorem dX0_reasonAgainst_9 : decode cX0_reasonAgainst 9 = .ok (.aload_n 0, 1) := by decide +kernel
theorem dX0_reasonAgainst_10 : decode cX0_reasonAgainst 10 = .ok (.getfield 18, 3) := by decide +kernel
theorem dX0_reasonAgainst_13 : decode cX0_reasonAgainst 13 = .ok (.iload_n 1, 1) := by decide +kernel
theorem dX0_reasonAgainst_14 : decode cX0_reasonAgainst 14 = .ok (.iconst 1, 1) := by decide +kernel
theorem dX0_reasonAgainst_15 : decode cX0_reasonAgainst 15 = .ok (.if_icmp .ne 7, 3) := by decide +kernel
theorem dX0_reasonAgainst_18 : decode cX0_reasonAgainst 18 = .ok (.iconst 1, 1) := by decide +kernel
theorem dX0_reasonAgainst_19 : decode cX0_reasonAgainst 19 = .ok (.goto 4, 3) := by decide +kernel
theorem dX0_reasonAgainst_22 : decode cX0_reasonAgainst 22 = .ok (.iconst 0, 1) := by decide +kernel
theorem dX0_reasonAgainst_23 : decode cX0_reasonAgainst 23 = .ok (.if_icmp .eq 5, 3) := by decide +kernel
theorem dX0_reasonAgainst_26 : decode cX0_reasonAgainst 26 = .ok (.iconst 2, 1) := by decide +kernel
theorem dX0_reasonAgainst_27 : decode cX0_reasonAgainst 27 = .ok (.ireturn, 1) := by decide +kernel
theorem dX0_reasonAgainst_28 : decode cX0_reasonAgainst 28 = .ok (.iload_n 1, 1) := by decide +kernel
theorem dX0_reasonAgainst_29 : decode cX0_reasonAgainst 29 = .ok (.ifCond .ne 12, 3) := by decide +kernel
theorem dX0_reasonAgainst_32 : decode cX0_reasonAgainst 32 = .ok (.aload_n 0, 1) := by decide +kernel
theorem dX0_reasonAgainst_33 : decode cX0_reasonAgainst 33 = .ok (.getfield 15, 3) := by decide +kernel
theorem dX0_reasonAgainst_36 : decode cX0_reasonAgainst 36 = .ok (.ifCond .ne 5, 3) := by decide +kernel
theorem dX0_reasonAgainst_39 : decode cX0_reasonAgainst 39 = .ok (.iconst 3, 1) := by decide +kernel
theorem dX0_reasonAgainst_40 : decode cX0_reasonAgainst 40 = .ok (.ireturn, 1) := by decide +kernel
theorem dX0_reasonAgainst_41 : decode cX0_reasonAgainst 41 = .ok (.iconst 0, 1) := by decide +kernel
theorem dX0_reasonAgainst_42 : decode cX0_reasonAgainst 42 = .ok (.ireturn, 1) := by decide +kernel
theorem dX0_passFrom_0 : decode cX0_passFrom 0 = .ok (.aload_n 0, 1) := by decide +kernel
theorem dX0_passFrom_1 : decode cX0_passFrom 1 = .ok (.iload_n 1, 1) := by decide +kernel
theorem dX0_passFrom_2 : decode cX0_passFrom 2 = .ok (.ifCond .ne 7, 3) := by decide +kernel
theorem dX0_passFrom_5 : decode cX0_passFrom 5 = .ok (.iconst 1, 1) := by decide +kernel
theorem dX0_passFrom_6 : decode cX0_passFrom 6 = .ok (.goto 4, 3) := by decide +kernel
theorem dX0_passFrom_9 : decode cX0_passFrom 9 = .ok (.iconst 0, 1) := by decide +kernel
theorem dX0_passFrom_10 : decode cX0_passFrom 10 = .ok (.putfield 18, 3) := by decide +kernel
theorem dX0_passFrom_13 : decode cX0_passFrom 13 = .ok (.iload_n 1, 1) := by decide +kernel
theorem dX0_passFrom_14 : decode cX0_passFrom 14 = .ok (.ifCond .ne 13, 3) := by decide +kernel
theorem dX0_passFrom_17 : decode cX0_passFrom 17 = .ok (.aload_n 0, 1) := by decide +kernel
theorem dX0_passFrom_18 : decode cX0_passFrom 18 = .ok (.dup, 1) := by decide +kernel
theorem dX0_passFrom_19 : decode cX0_passFrom 19 = .ok (.getfield 15, 3) := by decide +kernel
theorem dX0_passFrom_22 : decode cX0_passFrom 22 = .ok (.iconst 1, 1) := by decide +kernel
theorem dX0_passFrom_23 : decode cX0_passFrom 23 = .ok (.isub, 1) := by decide +kernel
theorem dX0_passFrom_24 : decode cX0_passFrom 24 = .ok (.putfield 15, 3) := by decide +kernel
theorem dX0_passFrom_27 : decode cX0_passFrom 27 = .ok (.aload_n 0, 1) := by decide +kernel
theorem dX0_passFrom_28 : decode cX0_passFrom 28 = .ok (.dup, 1) := by decide +kernel
theorem dX0_passFrom_29 : decode cX0_passFrom 29 = .ok (.getfield 25, 3) := by decide +kernel
theorem dX0_passFrom_32 : decode cX0_passFrom 32 = .ok (.iconst 1, 1) := by decide +kernel
theorem dX0_passFrom_33 : decode cX0_passFrom 33 = .ok (.iadd, 1) := by decide +kernel
theorem dX0_passFrom_34 : decode cX0_passFrom 34 = .ok (.putfield 25, 3) := by decide +kernel
theorem dX0_passFrom_37 : decode cX0_passFrom 37 = .ok (.return_, 1) := by decide +kernel
theorem dX1_init_0 : decode cX1_init 0 = .ok (.aload_n 0, 1) := by decide +kernel
theorem dX1_init_1 : decode cX1_init 1 = .ok (.invokespecial 3, 3) := by decide +kernel
theorem dX1_init_4 : decode cX1_init 4 = .ok (.aload_n 0, 1) := by decide +kernel
theorem dX1_init_5 : decode cX1_init 5 = .ok (.new 9, 3) := by decide +kernel
theorem dX1_init_8 : decode cX1_init 8 = .ok (.dup, 1) := by decide +kernel
theorem dX1_init_9 : decode cX1_init 9 = .ok (.invokespecial 11, 3) := by decide +kernel
theorem dX1_init_12 : decode cX1_init 12 = .ok (.putfield 12, 3) := by decide +kernel
theorem dX1_init_15 : decode cX1_init 15 = .ok (.aload_n 0, 1) := by decide +kernel
theorem dX1_init_16 : decode cX1_init 16 = .ok (.new 9, 3) := by decide +kernel
theorem dX1_init_19 : decode cX1_init 19 = .ok (.dup, 1) := by decide +kernel
theorem dX1_init_20 : decode cX1_init 20 = .ok (.invokespecial 11, 3) := by decide +kernel
theorem dX1_init_23 : decode cX1_init 23 = .ok (.putfield 18, 3) := by decide +kernel
theorem dX1_init_26 : decode cX1_init 26 = .ok (.aload_n 0, 1) := by decide +kernel
theorem dX1_init_27 : decode cX1_init 27 = .ok (.iconst (-1), 1) := by decide +kernel
theorem dX1_init_28 : decode cX1_init 28 = .ok (.putfield 21, 3) := by decide +kernel
theorem dX1_init_31 : decode cX1_init 31 = .ok (.aload_n 0, 1) := by decide +kernel
theorem dX1_init_32 : decode cX1_init 32 = .ok (.iconst (-1), 1) := by decide +kernel
theorem dX1_init_33 : decode cX1_init 33 = .ok (.putfield 25, 3) := by decide +kernel
theorem dX1_init_36 : decode cX1_init 36 = .ok (.return_, 1) := by decide +kernel
theorem dX1_copyFrom_0 : decode cX1_copyFrom 0 = .ok (.aload_n 0, 1) := by decide +kernel
theorem dX1_copyFrom_1 : decode cX1_copyFrom 1 = .ok (.getfield 12, 3) := by decide +kernel
theorem dX1_copyFrom_4 : decode cX1_copyFrom 4 = .ok (.aload_n 1, 1) := by decide +kernel
theorem dX1_copyFrom_5 : decode cX1_copyFrom 5 = .ok (.getfield 12, 3) := by decide +kernel
theorem dX1_copyFrom_8 : decode cX1_copyFrom 8 = .ok (.invokevirtual 28, 3) := by decide +kernel
theorem dX1_copyFrom_11 : decode cX1_copyFrom 11 = .ok (.aload_n 0, 1) := by decide +kernel
theorem dX1_copyFrom_12 : decode cX1_copyFrom 12 = .ok (.getfield 18, 3) := by decide +kernel
theorem dX1_copyFrom_15 : decode cX1_copyFrom 15 = .ok (.aload_n 1, 1) := by decide +kernel
theorem dX1_copyFrom_16 : decode cX1_copyFrom 16 = .ok (.getfield 18, 3) := by decide +kernel
theorem dX1_copyFrom_19 : decode cX1_copyFrom 19 = .ok (.invokevirtual 28, 3) := by decide +kernel
theorem dX1_copyFrom_22 : decode cX1_copyFrom 22 = .ok (.aload_n 0, 1) := by decide +kernel
theorem dX1_copyFrom_23 : decode cX1_copyFrom 23 = .ok (.aload_n 1, 1) := by decide +kernel
theorem dX1_copyFrom_24 : decode cX1_copyFrom 24 = .ok (.getfield 32, 3) := by decide +kernel
theorem dX1_copyFrom_27 : decode cX1_copyFrom 27 = .ok (.putfield 32, 3) := by decide +kernel
theorem dX1_copyFrom_30 : decode cX1_copyFrom 30 = .ok (.aload_n 0, 1) := by decide +kernel
theorem dX1_copyFrom_31 : decode cX1_copyFrom 31 = .ok (.aload_n 1, 1) := by decide +kernel
theorem dX1_copyFrom_32 : decode cX1_copyFrom 32 = .ok (.getfield 35, 3) := by decide +kernel
theorem dX1_copyFrom_35 : decode cX1_copyFrom 35 = .ok (.putfield 35, 3) := by decide +kernel
theorem dX1_copyFrom_38 : decode cX1_copyFrom 38 = .ok (.aload_n 0, 1) := by decide +kernel
theorem dX1_copyFrom_39 : decode cX1_copyFrom 39 = .ok (.aload_n 1, 1) := by decide +kernel
theorem dX1_copyFrom_40 : decode cX1_copyFrom 40 = .ok (.getfield 21, 3) := by decide +kernel
theorem dX1_copyFrom_43 : decode cX1_copyFrom 43 = .ok (.putfield 21, 3) := by decide +kernel
theorem dX1_copyFrom_46 : decode cX1_copyFrom 46 = .ok (.aload_n 0, 1) := by decide +kernel
theorem dX1_copyFrom_47 : decode cX1_copyFrom 47 = .ok (.aload_n 1, 1) := by decide +kernel
theorem dX1_copyFrom_48 : decode cX1_copyFrom 48 = .ok (.getfield 38, 3) := by decide +kernel
theorem dX1_copyFrom_51 : decode cX1_copyFrom 51 = .ok (.putfield 38, 3) := by decide +kernel
theorem dX1_copyFrom_54 : decode cX1_copyFrom 54 = .ok (.aload_n 0, 1) := by decide +kernel
theorem dX1_copyFrom_55 : decode cX1_copyFrom 55 = .ok (.aload_n 1, 1) := by decide +kernel
theorem dX1_copyFrom_56 : decode cX1_copyFrom 56 = .ok (.getfield 42, 3) := by decide +kernel
theorem dX1_copyFrom_59 : decode cX1_copyFrom 59 = .ok (.putfield 42, 3) := by decide +kernel
theorem dX1_copyFrom_62 : decode cX1_copyFrom 62 = .ok (.aload_n 0, 1) := by decide +kernel
theorem dX1_copyFrom_63 : decode cX1_copyFrom 63 = .ok (.aload_n 1, 1) := by decide +kernel
theorem dX1_copyFrom_64 : decode cX1_copyFrom 64 = .ok (.getfield 45, 3) := by decide +kernel
theorem dX1_copyFrom_67 : decode cX1_copyFrom 67 = .ok (.putfield 45, 3) := by decide +kernel
theorem dX1_copyFrom_70 : decode cX1_copyFrom 70 = .ok (.aload_n 0, 1) := by decide +kernel
theorem dX1_copyFrom_71 : decode cX1_copyFrom 71 = .ok (.aload_n 1, 1) := by decide +kernel
theorem dX1_copyFrom_72 : decode cX1_copyFrom 72 = .ok (.getfield 25, 3) := by decide +kernel
theorem dX1_copyFrom_75 : decode cX1_copyFrom 75 = .ok (.putfield 25, 3) := by decide +kernel
theorem dX1_copyFrom_78 : decode cX1_copyFrom 78 = .ok (.return_, 1) := by decide +kernel
theorem dX1_numberOfGate_0 : decode cX1_numberOfGate 0 = .ok (.iload_n 1, 1) := by decide +kernel
theorem dX1_numberOfGate_1 : decode cX1_numberOfGate 1 = .ok (.tableswitch 101 0 7 #[47, 52, 57, 62, 75, 83, 91, 96], 47) := by decide +kernel
theorem dX1_numberOfGate_48 : decode cX1_numberOfGate 48 = .ok (.aload_n 0, 1) := by decide +kernel
theorem dX1_numberOfGate_49 : decode cX1_numberOfGate 49 = .ok (.getfield 32, 3) := by decide +kernel
theorem dX1_numberOfGate_52 : decode cX1_numberOfGate 52 = .ok (.ireturn, 1) := by decide +kernel
theorem dX1_numberOfGate_53 : decode cX1_numberOfGate 53 = .ok (.aload_n 0, 1) := by decide +kernel
theorem dX1_numberOfGate_54 : decode cX1_numberOfGate 54 = .ok (.getfield 35, 3) := by decide +kernel
theorem dX1_numberOfGate_57 : decode cX1_numberOfGate 57 = .ok (.ireturn, 1) := by decide +kernel
theorem dX1_numberOfGate_58 : decode cX1_numberOfGate 58 = .ok (.aload_n 0, 1) := by decide +kernel
theorem dX1_numberOfGate_59 : decode cX1_numberOfGate 59 = .ok (.getfield 21, 3) := by decide +kernel
theorem dX1_numberOfGate_62 : decode cX1_numberOfGate 62 = .ok (.ireturn, 1) := by decide +kernel
theorem dX1_numberOfGate_63 : decode cX1_numberOfGate 63 = .ok (.aload_n 0, 1) := by decide +kernel
theorem dX1_numberOfGate_64 : decode cX1_numberOfGate 64 = .ok (.getfield 38, 3) := by decide +kernel
theorem dX1_numberOfGate_67 : decode cX1_numberOfGate 67 = .ok (.ifCond .eq 7, 3) := by decide +kernel
theorem dX1_numberOfGate_70 : decode cX1_numberOfGate 70 = .ok (.iconst 1, 1) := by decide +kernel
theorem dX1_numberOfGate_71 : decode cX1_numberOfGate 71 = .ok (.goto 4, 3) := by decide +kernel
theorem dX1_numberOfGate_74 : decode cX1_numberOfGate 74 = .ok (.iconst 0, 1) := by decide +kernel
theorem dX1_numberOfGate_75 : decode cX1_numberOfGate 75 = .ok (.ireturn, 1) := by decide +kernel
theorem dX1_numberOfGate_76 : decode cX1_numberOfGate 76 = .ok (.aload_n 0, 1) := by decide +kernel
theorem dX1_numberOfGate_77 : decode cX1_numberOfGate 77 = .ok (.getfield 12, 3) := by decide +kernel
theorem dX1_numberOfGate_80 : decode cX1_numberOfGate 80 = .ok (.getfield 48, 3) := by decide +kernel
theorem dX1_numberOfGate_83 : decode cX1_numberOfGate 83 = .ok (.ireturn, 1) := by decide +kernel
theorem dX1_numberOfGate_84 : decode cX1_numberOfGate 84 = .ok (.aload_n 0, 1) := by decide +kernel
theorem dX1_numberOfGate_85 : decode cX1_numberOfGate 85 = .ok (.getfield 18, 3) := by decide +kernel
theorem dX1_numberOfGate_88 : decode cX1_numberOfGate 88 = .ok (.getfield 48, 3) := by decide +kernel
theorem dX1_numberOfGate_91 : decode cX1_numberOfGate 91 = .ok (.ireturn, 1) := by decide +kernel
theorem dX1_numberOfGate_92 : decode cX1_numberOfGate 92 = .ok (.aload_n 0, 1) := by decide +kernel
theorem dX1_numberOfGate_93 : decode cX1_numberOfGate 93 = .ok (.getfield 42, 3) := by decide +kernel
theorem dX1_numberOfGate_96 : decode cX1_numberOfGate 96 = .ok (.ireturn, 1) := by decide +kernel
theorem dX1_numberOfGate_97 : decode cX1_numberOfGate 97 = .ok (.aload_n 0, 1) := by decide +kernel
theorem dX1_numberOfGate_98 : decode cX1_numberOfGate 98 = .ok (.getfield 45, 3) := by decide +kernel
theorem dX1_numberOfGate_101 : decode cX1_numberOfGate 101 = .ok (.ireturn, 1) := by decide +kernel
theorem dX1_numberOfGate_102 : decode cX1_numberOfGate 102 = .ok (.aload_n 0, 1) := by decide +kernel
theorem dX1_numberOfGate_103 : decode cX1_numberOfGate 103 = .ok (.getfield 25, 3) := by decide +kernel
theorem dX1_numberOfGate_106 : decode cX1_numberOfGate 106 = .ok (.ireturn, 1) := by decide +kernel
theorem dX1_lineOn_0 : decode cX1_lineOn 0 = .ok (.iload_n 1, 1) := by decide +kernel
theorem dX1_lineOn_1 : decode cX1_lineOn 1 = .ok (.iconst 1, 1) := by decide +kernel
theorem dX1_lineOn_2 : decode cX1_lineOn 2 = .ok (.if_icmp .ne 10, 3) := by decide +kernel
theorem dX1_lineOn_5 : decode cX1_lineOn 5 = .ok (.aload_n 0, 1) := by decide +kernel
theorem dX1_lineOn_6 : decode cX1_lineOn 6 = .ok (.getfield 18, 3) := by decide +kernel
theorem dX1_lineOn_9 : decode cX1_lineOn 9 = .ok (.goto 7, 3) := by decide +kernel
theorem dX1_lineOn_12 : decode cX1_lineOn 12 = .ok (.aload_n 0, 1) := by decide +kernel
theorem dX1_lineOn_13 : decode cX1_lineOn 13 = .ok (.getfield 12, 3) := by decide +kernel
theorem dX1_lineOn_16 : decode cX1_lineOn 16 = .ok (.areturn, 1) := by decide +kernel
theorem dX1_peopleInLines_0 : decode cX1_peopleInLines 0 = .ok (.aload_n 0, 1) := by decide +kernel
theorem dX1_peopleInLines_1 : decode cX1_peopleInLines 1 = .ok (.getfield 12, 3) := by decide +kernel
theorem dX1_peopleInLines_4 : decode cX1_peopleInLines 4 = .ok (.getfield 48, 3) := by decide +kernel
theorem dX1_peopleInLines_7 : decode cX1_peopleInLines 7 = .ok (.aload_n 0, 1) := by decide +kernel
theorem dX1_peopleInLines_8 : decode cX1_peopleInLines 8 = .ok (.getfield 18, 3) := by decide +kernel
theorem dX1_peopleInLines_11 : decode cX1_peopleInLines 11 = .ok (.getfield 48, 3) := by decide +kernel
theorem dX1_peopleInLines_14 : decode cX1_peopleInLines 14 = .ok (.iadd, 1) := by decide +kernel
theorem dX1_peopleInLines_15 : decode cX1_peopleInLines 15 = .ok (.ireturn, 1) := by decide +kernel
theorem dX1_serves_0 : decode cX1_serves 0 = .ok (.aload_n 0, 1) := by decide +kernel
theorem dX1_serves_1 : decode cX1_serves 1 = .ok (.getfield 32, 3) := by decide +kernel
theorem dX1_serves_4 : decode cX1_serves 4 = .ok (.iload_n 1, 1) := by decide +kernel
theorem dX1_serves_5 : decode cX1_serves 5 = .ok (.invokestatic 51, 3) := by decide +kernel
theorem dX1_serves_8 : decode cX1_serves 8 = .ok (.ireturn, 1) := by decide +kernel
theorem dX1_servesInMode_0 : decode cX1_servesInMode 0 = .ok (.iload_n 0, 1) := by decide +kernel
theorem dX1_servesInMode_1 : decode cX1_servesInMode 1 = .ok (.iconst 2, 1) := by decide +kernel
theorem dX1_servesInMode_2 : decode cX1_servesInMode 2 = .ok (.if_icmp .eq 17, 3) := by decide +kernel
theorem dX1_servesInMode_5 : decode cX1_servesInMode 5 = .ok (.iload_n 0, 1) := by decide +kernel
theorem dX1_servesInMode_6 : decode cX1_servesInMode 6 = .ok (.iload_n 1, 1) := by decide +kernel
theorem dX1_servesInMode_7 : decode cX1_servesInMode 7 = .ok (.iconst 1, 1) := by decide +kernel
theorem dX1_servesInMode_8 : decode cX1_servesInMode 8 = .ok (.if_icmp .ne 7, 3) := by decide +kernel
theorem dX1_servesInMode_11 : decode cX1_servesInMode 11 = .ok (.iconst 1, 1) := by decide +kernel
theorem dX1_servesInMode_12 : decode cX1_servesInMode 12 = .ok (.goto 4, 3) := by decide +kernel
theorem dX1_servesInMode_15 : decode cX1_servesInMode 15 = .ok (.iconst 0, 1) := by decide +kernel
theorem dX1_servesInMode_16 : decode cX1_servesInMode 16 = .ok (.if_icmp .ne 7, 3) := by decide +kernel
theorem dX1_servesInMode_19 : decode cX1_servesInMode 19 = .ok (.iconst 1, 1) := by decide +kernel
theorem dX1_servesInMode_20 : decode cX1_servesInMode 20 = .ok (.goto 4, 3) := by decide +kernel
theorem dX1_servesInMode_23 : decode cX1_servesInMode 23 = .ok (.iconst 0, 1) := by decide +kernel
theorem dX1_servesInMode_24 : decode cX1_servesInMode 24 = .ok (.ireturn, 1) := by decide +kernel
theorem dX1_peopleNotServedIn_0 : decode cX1_peopleNotServedIn 0 = .ok (.iconst 0, 1) := by decide +kernel
theorem dX1_peopleNotServedIn_1 : decode cX1_peopleNotServedIn 1 = .ok (.istore_n 2, 1) := by decide +kernel
theorem dX1_peopleNotServedIn_2 : decode cX1_peopleNotServedIn 2 = .ok (.iload_n 1, 1) := by decide +kernel
theorem dX1_peopleNotServedIn_3 : decode cX1_peopleNotServedIn 3 = .ok (.iconst 0, 1) := by decide +kernel
theorem dX1_peopleNotServedIn_4 : decode cX1_peopleNotServedIn 4 = .ok (.invokestatic 51, 3) := by decide +kernel
theorem dX1_peopleNotServedIn_7 : decode cX1_peopleNotServedIn 7 = .ok (.ifCond .ne 13, 3) := by decide +kernel
theorem dX1_peopleNotServedIn_10 : decode cX1_peopleNotServedIn 10 = .ok (.iload_n 2, 1) := by decide +kernel
theorem dX1_peopleNotServedIn_11 : decode cX1_peopleNotServedIn 11 = .ok (.aload_n 0, 1) := by decide +kernel
theorem dX1_peopleNotServedIn_12 : decode cX1_peopleNotServedIn 12 = .ok (.getfield 12, 3) := by decide +kernel
theorem dX1_peopleNotServedIn_15 : decode cX1_peopleNotServedIn 15 = .ok (.getfield 48, 3) := by decide +kernel
theorem dX1_peopleNotServedIn_18 : decode cX1_peopleNotServedIn 18 = .ok (.iadd, 1) := by decide +kernel
theorem dX1_peopleNotServedIn_19 : decode cX1_peopleNotServedIn 19 = .ok (.istore_n 2, 1) := by decide +kernel
theorem dX1_peopleNotServedIn_20 : decode cX1_peopleNotServedIn 20 = .ok (.iload_n 1, 1) := by decide +kernel
theorem dX1_peopleNotServedIn_21 : decode cX1_peopleNotServedIn 21 = .ok (.iconst 1, 1) := by decide +kernel
theorem dX1_peopleNotServedIn_22 : decode cX1_peopleNotServedIn 22 = .ok (.invokestatic 51, 3) := by decide +kernel
theorem dX1_peopleNotServedIn_25 : decode cX1_peopleNotServedIn 25 = .ok (.ifCond .ne 13, 3) := by decide +kernel
theorem dX1_peopleNotServedIn_28 : decode cX1_peopleNotServedIn 28 = .ok (.iload_n 2, 1) := by decide +kernel
theorem dX1_peopleNotServedIn_29 : decode cX1_peopleNotServedIn 29 = .ok (.aload_n 0, 1) := by decide +kernel
theorem dX1_peopleNotServedIn_30 : decode cX1_peopleNotServedIn 30 = .ok (.getfield 18, 3) := by decide +kernel
theorem dX1_peopleNotServedIn_33 : decode cX1_peopleNotServedIn 33 = .ok (.getfield 48, 3) := by decide +kernel
theorem dX1_peopleNotServedIn_36 : decode cX1_peopleNotServedIn 36 = .ok (.iadd, 1) := by decide +kernel
theorem dX1_peopleNotServedIn_37 : decode cX1_peopleNotServedIn 37 = .ok (.istore_n 2, 1) := by decide +kernel
theorem dX1_peopleNotServedIn_38 : decode cX1_peopleNotServedIn 38 = .ok (.iload_n 2, 1) := by decide +kernel
theorem dX1_peopleNotServedIn_39 : decode cX1_peopleNotServedIn 39 = .ok (.ireturn, 1) := by decide +kernel
theorem dX1_canTakeMode_0 : decode cX1_canTakeMode 0 = .ok (.aload_n 0, 1) := by decide +kernel
theorem dX1_canTakeMode_1 : decode cX1_canTakeMode 1 = .ok (.invokevirtual 55, 3) := by decide +kernel
theorem dX1_canTakeMode_4 : decode cX1_canTakeMode 4 = .ok (.ifCond .ne 15, 3) := by decide +kernel
theorem dX1_canTakeMode_7 : decode cX1_canTakeMode 7 = .ok (.aload_n 0, 1) := by decide +kernel
theorem dX1_canTakeMode_8 : decode cX1_canTakeMode 8 = .ok (.iload_n 1, 1) := by decide +kernel
theorem dX1_canTakeMode_9 : decode cX1_canTakeMode 9 = .ok (.invokevirtual 59, 3) := by decide +kernel
theorem dX1_canTakeMode_12 : decode cX1_canTakeMode 12 = .ok (.ifCond .ne 7, 3) := by decide +kernel
theorem dX1_canTakeMode_15 : decode cX1_canTakeMode 15 = .ok (.iconst 1, 1) := by decide +kernel
theorem dX1_canTakeMode_16 : decode cX1_canTakeMode 16 = .ok (.goto 4, 3) := by decide +kernel
theorem dX1_canTakeMode_19 : decode cX1_canTakeMode 19 = .ok (.iconst 0, 1) := by decide +kernel
theorem dX1_canTakeMode_20 : decode cX1_canTakeMode 20 = .ok (.ireturn, 1) := by decide +kernel
theorem dX1_isOpen_0 : decode cX1_isOpen 0 = .ok (.aload_n 0, 1) := by decide +kernel
theorem dX1_isOpen_1 : decode cX1_isOpen 1 = .ok (.getfield 35, 3) := by decide +kernel
theorem dX1_isOpen_4 : decode cX1_isOpen 4 = .ok (.ifCond .le 7, 3) := by decide +kernel
theorem dX1_isOpen_7 : decode cX1_isOpen 7 = .ok (.iconst 1, 1) := by decide +kernel
theorem dX1_isOpen_8 : decode cX1_isOpen 8 = .ok (.goto 4, 3) := by decide +kernel
theorem dX1_isOpen_11 : decode cX1_isOpen 11 = .ok (.iconst 0, 1) := by decide +kernel
theorem dX1_isOpen_12 : decode cX1_isOpen 12 = .ok (.ireturn, 1) := by decide +kernel
theorem dX1_isFirstDueOn_0 : decode cX1_isFirstDueOn 0 = .ok (.aload_n 0, 1) := by decide +kernel
theorem dX1_isFirstDueOn_1 : decode cX1_isFirstDueOn 1 = .ok (.getfield 38, 3) := by decide +kernel
theorem dX1_isFirstDueOn_4 : decode cX1_isFirstDueOn 4 = .ok (.ifCond .eq 15, 3) := by decide +kernel
theorem dX1_isFirstDueOn_7 : decode cX1_isFirstDueOn 7 = .ok (.aload_n 0, 1) := by decide +kernel
theorem dX1_isFirstDueOn_8 : decode cX1_isFirstDueOn 8 = .ok (.getfield 21, 3) := by decide +kernel
theorem dX1_isFirstDueOn_11 : decode cX1_isFirstDueOn 11 = .ok (.iload_n 1, 1) := by decide +kernel
theorem dX1_isFirstDueOn_12 : decode cX1_isFirstDueOn 12 = .ok (.if_icmp .ne 7, 3) := by decide +kernel
theorem dX1_isFirstDueOn_15 : decode cX1_isFirstDueOn 15 = .ok (.iconst 1, 1) := by decide +kernel
theorem dX1_isFirstDueOn_16 : decode cX1_isFirstDueOn 16 = .ok (.goto 4, 3) := by decide +kernel
theorem dX1_isFirstDueOn_19 : decode cX1_isFirstDueOn 19 = .ok (.iconst 0, 1) := by decide +kernel
theorem dX1_isFirstDueOn_20 : decode cX1_isFirstDueOn 20 = .ok (.ireturn, 1) := by decide +kernel
theorem dX1_sideServedNext_0 : decode cX1_sideServedNext 0 = .ok (.aload_n 0, 1) := by decide +kernel
theorem dX1_sideServedNext_1 : decode cX1_sideServedNext 1 = .ok (.getfield 32, 3) := by decide +kernel
theorem dX1_sideServedNext_4 : decode cX1_sideServedNext 4 = .ok (.ifCond .ne 5, 3) := by decide +kernel
theorem dX1_sideServedNext_7 : decode cX1_sideServedNext 7 = .ok (.iconst 0, 1) := by decide +kernel
theorem dX1_sideServedNext_8 : decode cX1_sideServedNext 8 = .ok (.ireturn, 1) := by decide +kernel
theorem dX1_sideServedNext_9 : decode cX1_sideServedNext 9 = .ok (.aload_n 0, 1) := by decide +kernel
theorem dX1_sideServedNext_10 : decode cX1_sideServedNext 10 = .ok (.getfield 32, 3) := by decide +kernel
theorem dX1_sideServedNext_13 : decode cX1_sideServedNext 13 = .ok (.iconst 1, 1) := by decide +kernel
theorem dX1_sideServedNext_14 : decode cX1_sideServedNext 14 = .ok (.if_icmp .ne 5, 3) := by decide +kernel
theorem dX1_sideServedNext_17 : decode cX1_sideServedNext 17 = .ok (.iconst 1, 1) := by decide +kernel
theorem dX1_sideServedNext_18 : decode cX1_sideServedNext 18 = .ok (.ireturn, 1) := by decide +kernel
theorem dX1_sideServedNext_19 : decode cX1_sideServedNext 19 = .ok (.aload_n 0, 1) := by decide +kernel
theorem dX1_sideServedNext_20 : decode cX1_sideServedNext 20 = .ok (.getfield 12, 3) := by decide +kernel
theorem dX1_sideServedNext_23 : decode cX1_sideServedNext 23 = .ok (.getfield 48, 3) := by decide +kernel
theorem dX1_sideServedNext_26 : decode cX1_sideServedNext 26 = .ok (.aload_n 0, 1) := by decide +kernel
theorem dX1_sideServedNext_27 : decode cX1_sideServedNext 27 = .ok (.getfield 18, 3) := by decide +kernel
theorem dX1_sideServedNext_30 : decode cX1_sideServedNext 30 = .ok (.getfield 48, 3) := by decide +kernel
theorem dX1_sideServedNext_33 : decode cX1_sideServedNext 33 = .ok (.if_icmp .eq 26, 3) := by decide +kernel
theorem dX1_sideServedNext_36 : decode cX1_sideServedNext 36 = .ok (.aload_n 0, 1) := by decide +kernel
theorem dX1_sideServedNext_37 : decode cX1_sideServedNext 37 = .ok (.getfield 12, 3) := by decide +kernel
theorem dX1_sideServedNext_40 : decode cX1_sideServedNext 40 = .ok (.getfield 48, 3) := by decide +kernel
theorem dX1_sideServedNext_43 : decode cX1_sideServedNext 43 = .ok (.aload_n 0, 1) := by decide +kernel
theorem dX1_sideServedNext_44 : decode cX1_sideServedNext 44 = .ok (.getfield 18, 3) := by decide +kernel
theorem dX1_sideServedNext_47 : decode cX1_sideServedNext 47 = .ok (.getfield 48, 3) := by decide +kernel
theorem dX1_sideServedNext_50 : decode cX1_sideServedNext 50 = .ok (.if_icmp .le 7, 3) := by decide +kernel
theorem dX1_sideServedNext_53 : decode cX1_sideServedNext 53 = .ok (.iconst 0, 1) := by decide +kernel
theorem dX1_sideServedNext_54 : decode cX1_sideServedNext 54 = .ok (.goto 4, 3) := by decide +kernel
theorem dX1_sideServedNext_57 : decode cX1_sideServedNext 57 = .ok (.iconst 1, 1) := by decide +kernel
theorem dX1_sideServedNext_58 : decode cX1_sideServedNext 58 = .ok (.ireturn, 1) := by decide +kernel
theorem dX1_sideServedNext_59 : decode cX1_sideServedNext 59 = .ok (.aload_n 0, 1) := by decide +kernel
theorem dX1_sideServedNext_60 : decode cX1_sideServedNext 60 = .ok (.getfield 25, 3) := by decide +kernel
theorem dX1_sideServedNext_63 : decode cX1_sideServedNext 63 = .ok (.ifCond .ne 7, 3) := by decide +kernel
theorem dX1_sideServedNext_66 : decode cX1_sideServedNext 66 = .ok (.iconst 1, 1) := by decide +kernel
theorem dX1_sideServedNext_67 : decode cX1_sideServedNext 67 = .ok (.goto 4, 3) := by decide +kernel
theorem dX1_sideServedNext_70 : decode cX1_sideServedNext 70 = .ok (.iconst 0, 1) := by decide +kernel
theorem dX1_sideServedNext_71 : decode cX1_sideServedNext 71 = .ok (.ireturn, 1) := by decide +kernel
theorem dX1_openFor_0 : decode cX1_openFor 0 = .ok (.aload_n 0, 1) := by decide +kernel
theorem dX1_openFor_1 : decode cX1_openFor 1 = .ok (.iload_n 2, 1) := by decide +kernel
theorem dX1_openFor_2 : decode cX1_openFor 2 = .ok (.putfield 35, 3) := by decide +kernel
theorem dX1_openFor_5 : decode cX1_openFor 5 = .ok (.aload_n 0, 1) := by decide +kernel
theorem dX1_openFor_6 : decode cX1_openFor 6 = .ok (.iload_n 1, 1) := by decide +kernel
theorem dX1_openFor_7 : decode cX1_openFor 7 = .ok (.putfield 21, 3) := by decide +kernel
theorem dX1_openFor_10 : decode cX1_openFor 10 = .ok (.aload_n 0, 1) := by decide +kernel
theorem dX1_openFor_11 : decode cX1_openFor 11 = .ok (.iconst 1, 1) := by decide +kernel
theorem dX1_openFor_12 : decode cX1_openFor 12 = .ok (.putfield 38, 3) := by decide +kernel
theorem dX1_openFor_15 : decode cX1_openFor 15 = .ok (.aload_n 0, 1) := by decide +kernel
theorem dX1_openFor_16 : decode cX1_openFor 16 = .ok (.dup, 1) := by decide +kernel
theorem dX1_openFor_17 : decode cX1_openFor 17 = .ok (.getfield 45, 3) := by decide +kernel
theorem dX1_openFor_20 : decode cX1_openFor 20 = .ok (.iconst 1, 1) := by decide +kernel
theorem dX1_openFor_21 : decode cX1_openFor 21 = .ok (.iadd, 1) := by decide +kernel
theorem dX1_openFor_22 : decode cX1_openFor 22 = .ok (.putfield 45, 3) := by decide +kernel
theorem dX1_openFor_25 : decode cX1_openFor 25 = .ok (.aload_n 0, 1) := by decide +kernel
theorem dX1_openFor_26 : decode cX1_openFor 26 = .ok (.iload_n 1, 1) := by decide +kernel
theorem dX1_openFor_27 : decode cX1_openFor 27 = .ok (.putfield 25, 3) := by decide +kernel
theorem dX1_openFor_30 : decode cX1_openFor 30 = .ok (.return_, 1) := by decide +kernel
theorem dX1_closePaddles_0 : decode cX1_closePaddles 0 = .ok (.aload_n 0, 1) := by decide +kernel
theorem dX1_closePaddles_1 : decode cX1_closePaddles 1 = .ok (.iconst 0, 1) := by decide +kernel
theorem dX1_closePaddles_2 : decode cX1_closePaddles 2 = .ok (.putfield 35, 3) := by decide +kernel
theorem dX1_closePaddles_5 : decode cX1_closePaddles 5 = .ok (.aload_n 0, 1) := by decide +kernel
theorem dX1_closePaddles_6 : decode cX1_closePaddles 6 = .ok (.iconst (-1), 1) := by decide +kernel
theorem dX1_closePaddles_7 : decode cX1_closePaddles 7 = .ok (.putfield 21, 3) := by decide +kernel
theorem dX1_closePaddles_10 : decode cX1_closePaddles 10 = .ok (.aload_n 0, 1) := by decide +kernel
theorem dX1_closePaddles_11 : decode cX1_closePaddles 11 = .ok (.iconst 0, 1) := by decide +kernel
theorem dX1_closePaddles_12 : decode cX1_closePaddles 12 = .ok (.putfield 38, 3) := by decide +kernel
theorem dX1_closePaddles_15 : decode cX1_closePaddles 15 = .ok (.return_, 1) := by decide +kernel
theorem dX2_init_0 : decode cX2_init 0 = .ok (.aload_n 0, 1) := by decide +kernel
theorem dX2_init_1 : decode cX2_init 1 = .ok (.invokespecial 3, 3) := by decide +kernel
theorem dX2_init_4 : decode cX2_init 4 = .ok (.aload_n 0, 1) := by decide +kernel
theorem dX2_init_5 : decode cX2_init 5 = .ok (.bipush 8, 2) := by decide +kernel
theorem dX2_init_7 : decode cX2_init 7 = .ok (.anewarray 9, 3) := by decide +kernel
theorem dX2_init_10 : decode cX2_init 10 = .ok (.putfield 11, 3) := by decide +kernel
theorem dX2_init_13 : decode cX2_init 13 = .ok (.iconst 0, 1) := by decide +kernel
theorem dX2_init_14 : decode cX2_init 14 = .ok (.istore_n 1, 1) := by decide +kernel
theorem dX2_init_15 : decode cX2_init 15 = .ok (.iload_n 1, 1) := by decide +kernel
theorem dX2_init_16 : decode cX2_init 16 = .ok (.aload_n 0, 1) := by decide +kernel
theorem dX2_init_17 : decode cX2_init 17 = .ok (.getfield 11, 3) := by decide +kernel
theorem dX2_init_20 : decode cX2_init 20 = .ok (.arraylength, 1) := by decide +kernel
theorem dX2_init_21 : decode cX2_init 21 = .ok (.if_icmp .ge 22, 3) := by decide +kernel
theorem dX2_init_24 : decode cX2_init 24 = .ok (.aload_n 0, 1) := by decide +kernel
theorem dX2_init_25 : decode cX2_init 25 = .ok (.getfield 11, 3) := by decide +kernel
theorem dX2_init_28 : decode cX2_init 28 = .ok (.iload_n 1, 1) := by decide +kernel
theorem dX2_init_29 : decode cX2_init 29 = .ok (.new 9, 3) := by decide +kernel
theorem dX2_init_32 : decode cX2_init 32 = .ok (.dup, 1) := by decide +kernel
theorem dX2_init_33 : decode cX2_init 33 = .ok (.invokespecial 17, 3) := by decide +kernel
theorem dX2_init_36 : decode cX2_init 36 = .ok (.aastore, 1) := by decide +kernel
theorem dX2_init_37 : decode cX2_init 37 = .ok (.iinc 1 1, 3) := by decide +kernel
theorem dX2_init_40 : decode cX2_init 40 = .ok (.goto (-25), 3) := by decide +kernel
theorem dX2_init_43 : decode cX2_init 43 = .ok (.return_, 1) := by decide +kernel
theorem dX2_remember_0 : decode cX2_remember 0 = .ok (.aload_n 0, 1) := by decide +kernel
theorem dX2_remember_1 : decode cX2_remember 1 = .ok (.aload_n 0, 1) := by decide +kernel
theorem dX2_remember_2 : decode cX2_remember 2 = .ok (.getfield 18, 3) := by decide +kernel
theorem dX2_remember_5 : decode cX2_remember 5 = .ok (.iconst 1, 1) := by decide +kernel
theorem dX2_remember_6 : decode cX2_remember 6 = .ok (.iadd, 1) := by decide +kernel
theorem dX2_remember_7 : decode cX2_remember 7 = .ok (.aload_n 0, 1) := by decide +kernel
theorem dX2_remember_8 : decode cX2_remember 8 = .ok (.getfield 11, 3) := by decide +kernel
theorem dX2_remember_11 : decode cX2_remember 11 = .ok (.arraylength, 1) := by decide +kernel
theorem dX2_remember_12 : decode cX2_remember 12 = .ok (.if_icmp .ge 12, 3) := by decide +kernel
theorem dX2_remember_15 : decode cX2_remember 15 = .ok (.aload_n 0, 1) := by decide +kernel
theorem dX2_remember_16 : decode cX2_remember 16 = .ok (.getfield 18, 3) := by decide +kernel
theorem dX2_remember_19 : decode cX2_remember 19 = .ok (.iconst 1, 1) := by decide +kernel
theorem dX2_remember_20 : decode cX2_remember 20 = .ok (.iadd, 1) := by decide +kernel
theorem dX2_remember_21 : decode cX2_remember 21 = .ok (.goto 4, 3) := by decide +kernel
theorem dX2_remember_24 : decode cX2_remember 24 = .ok (.iconst 0, 1) := by decide +kernel
theorem dX2_remember_25 : decode cX2_remember 25 = .ok (.putfield 18, 3) := by decide +kernel
theorem dX2_remember_28 : decode cX2_remember 28 = .ok (.aload_n 0, 1) := by decide +kernel
theorem dX2_remember_29 : decode cX2_remember 29 = .ok (.aload_n 0, 1) := by decide +kernel
theorem dX2_remember_30 : decode cX2_remember 30 = .ok (.getfield 22, 3) := by decide +kernel
theorem dX2_remember_33 : decode cX2_remember 33 = .ok (.iconst 1, 1) := by decide +kernel
theorem dX2_remember_34 : decode cX2_remember 34 = .ok (.iadd, 1) := by decide +kernel
theorem dX2_remember_35 : decode cX2_remember 35 = .ok (.aload_n 0, 1) := by decide +kernel
theorem dX2_remember_36 : decode cX2_remember 36 = .ok (.getfield 11, 3) := by decide +kernel
theorem dX2_remember_39 : decode cX2_remember 39 = .ok (.arraylength, 1) := by decide +kernel
theorem dX2_remember_40 : decode cX2_remember 40 = .ok (.invokestatic 25, 3) := by decide +kernel
theorem dX2_remember_43 : decode cX2_remember 43 = .ok (.putfield 22, 3) := by decide +kernel
theorem dX2_remember_46 : decode cX2_remember 46 = .ok (.aload_n 0, 1) := by decide +kernel
theorem dX2_remember_47 : decode cX2_remember 47 = .ok (.getfield 18, 3) := by decide +kernel
theorem dX2_remember_50 : decode cX2_remember 50 = .ok (.ifCond .lt 28, 3) := by decide +kernel
theorem dX2_remember_53 : decode cX2_remember 53 = .ok (.aload_n 0, 1) := by decide +kernel
theorem dX2_remember_54 : decode cX2_remember 54 = .ok (.getfield 18, 3) := by decide +kernel
theorem dX2_remember_57 : decode cX2_remember 57 = .ok (.aload_n 0, 1) := by decide +kernel
theorem dX2_remember_58 : decode cX2_remember 58 = .ok (.getfield 11, 3) := by decide +kernel
theorem dX2_remember_61 : decode cX2_remember 61 = .ok (.arraylength, 1) := by decide +kernel
theorem dX2_remember_62 : decode cX2_remember 62 = .ok (.if_icmp .ge 16, 3) := by decide +kernel
theorem dX2_remember_65 : decode cX2_remember 65 = .ok (.aload_n 0, 1) := by decide +kernel
theorem dX2_remember_66 : decode cX2_remember 66 = .ok (.getfield 11, 3) := by decide +kernel
theorem dX2_remember_69 : decode cX2_remember 69 = .ok (.aload_n 0, 1) := by decide +kernel
theorem dX2_remember_70 : decode cX2_remember 70 = .ok (.getfield 18, 3) := by decide +kernel
theorem dX2_remember_73 : decode cX2_remember 73 = .ok (.aaload, 1) := by decide +kernel
theorem dX2_remember_74 : decode cX2_remember 74 = .ok (.aload_n 1, 1) := by decide +kernel
theorem dX2_remember_75 : decode cX2_remember 75 = .ok (.invokevirtual 31, 3) := by decide +kernel
theorem dX2_remember_78 : decode cX2_remember 78 = .ok (.return_, 1) := by decide +kernel
theorem dX2_takeBack_0 : decode cX2_takeBack 0 = .ok (.aload_n 0, 1) := by decide +kernel
theorem dX2_takeBack_1 : decode cX2_takeBack 1 = .ok (.getfield 22, 3) := by decide +kernel
theorem dX2_takeBack_4 : decode cX2_takeBack 4 = .ok (.ifCond .le 72, 3) := by decide +kernel
theorem dX2_takeBack_7 : decode cX2_takeBack 7 = .ok (.aload_n 0, 1) := by decide +kernel
theorem dX2_takeBack_8 : decode cX2_takeBack 8 = .ok (.getfield 18, 3) := by decide +kernel
theorem dX2_takeBack_11 : decode cX2_takeBack 11 = .ok (.ifCond .lt 65, 3) := by decide +kernel
theorem dX2_takeBack_14 : decode cX2_takeBack 14 = .ok (.aload_n 0, 1) := by decide +kernel
theorem dX2_takeBack_15 : decode cX2_takeBack 15 = .ok (.getfield 18, 3) := by decide +kernel
theorem dX2_takeBack_18 : decode cX2_takeBack 18 = .ok (.aload_n 0, 1) := by decide +kernel
theorem dX2_takeBack_19 : decode cX2_takeBack 19 = .ok (.getfield 11, 3) := by decide +kernel
theorem dX2_takeBack_22 : decode cX2_takeBack 22 = .ok (.arraylength, 1) := by decide +kernel
theorem dX2_takeBack_23 : decode cX2_takeBack 23 = .ok (.if_icmp .ge 53, 3) := by decide +kernel
theorem dX2_takeBack_26 : decode cX2_takeBack 26 = .ok (.aload_n 1, 1) := by decide +kernel
theorem dX2_takeBack_27 : decode cX2_takeBack 27 = .ok (.aload_n 0, 1) := by decide +kernel
theorem dX2_takeBack_28 : decode cX2_takeBack 28 = .ok (.getfield 11, 3) := by decide +kernel
theorem dX2_takeBack_31 : decode cX2_takeBack 31 = .ok (.aload_n 0, 1) := by decide +kernel
theorem dX2_takeBack_32 : decode cX2_takeBack 32 = .ok (.getfield 18, 3) := by decide +kernel
theorem dX2_takeBack_35 : decode cX2_takeBack 35 = .ok (.aaload, 1) := by decide +kernel
theorem dX2_takeBack_36 : decode cX2_takeBack 36 = .ok (.invokevirtual 31, 3) := by decide +kernel
theorem dX2_takeBack_39 : decode cX2_takeBack 39 = .ok (.aload_n 0, 1) := by decide +kernel
theorem dX2_takeBack_40 : decode cX2_takeBack 40 = .ok (.aload_n 0, 1) := by decide +kernel
theorem dX2_takeBack_41 : decode cX2_takeBack 41 = .ok (.getfield 18, 3) := by decide +kernel
theorem dX2_takeBack_44 : decode cX2_takeBack 44 = .ok (.ifCond .le 12, 3) := by decide +kernel
theorem dX2_takeBack_47 : decode cX2_takeBack 47 = .ok (.aload_n 0, 1) := by decide +kernel
theorem dX2_takeBack_48 : decode cX2_takeBack 48 = .ok (.getfield 18, 3) := by decide +kernel
theorem dX2_takeBack_51 : decode cX2_takeBack 51 = .ok (.iconst 1, 1) := by decide +kernel
theorem dX2_takeBack_52 : decode cX2_takeBack 52 = .ok (.isub, 1) := by decide +kernel
theorem dX2_takeBack_53 : decode cX2_takeBack 53 = .ok (.goto 10, 3) := by decide +kernel
theorem dX2_takeBack_56 : decode cX2_takeBack 56 = .ok (.aload_n 0, 1) := by decide +kernel
theorem dX2_takeBack_57 : decode cX2_takeBack 57 = .ok (.getfield 11, 3) := by decide +kernel
theorem dX2_takeBack_60 : decode cX2_takeBack 60 = .ok (.arraylength, 1) := by decide +kernel
theorem dX2_takeBack_61 : decode cX2_takeBack 61 = .ok (.iconst 1, 1) := by decide +kernel
theorem dX2_takeBack_62 : decode cX2_takeBack 62 = .ok (.isub, 1) := by decide +kernel
theorem dX2_takeBack_63 : decode cX2_takeBack 63 = .ok (.putfield 18, 3) := by decide +kernel
theorem dX2_takeBack_66 : decode cX2_takeBack 66 = .ok (.aload_n 0, 1) := by decide +kernel
theorem dX2_takeBack_67 : decode cX2_takeBack 67 = .ok (.dup, 1) := by decide +kernel
theorem dX2_takeBack_68 : decode cX2_takeBack 68 = .ok (.getfield 22, 3) := by decide +kernel
theorem dX2_takeBack_71 : decode cX2_takeBack 71 = .ok (.iconst 1, 1) := by decide +kernel
theorem dX2_takeBack_72 : decode cX2_takeBack 72 = .ok (.isub, 1) := by decide +kernel
theorem dX2_takeBack_73 : decode cX2_takeBack 73 = .ok (.putfield 22, 3) := by decide +kernel
theorem dX2_takeBack_76 : decode cX2_takeBack 76 = .ok (.return_, 1) := by decide +kernel
theorem dX3_init_0 : decode cX3_init 0 = .ok (.aload_n 0, 1) := by decide +kernel
theorem dX3_init_1 : decode cX3_init 1 = .ok (.invokespecial 3, 3) := by decide +kernel
theorem dX3_init_4 : decode cX3_init 4 = .ok (.aload_n 0, 1) := by decide +kernel
theorem dX3_init_5 : decode cX3_init 5 = .ok (.sipush 500, 3) := by decide +kernel
theorem dX3_init_8 : decode cX3_init 8 = .ok (.newarray .byte, 2) := by decide +kernel
theorem dX3_init_10 : decode cX3_init 10 = .ok (.putfield 9, 3) := by decide +kernel
theorem dX3_init_13 : decode cX3_init 13 = .ok (.return_, 1) := by decide +kernel
theorem dX3_addBytesOf_0 : decode cX3_addBytesOf 0 = .ok (.bipush 24, 2) := by decide +kernel
theorem dX3_addBytesOf_2 : decode cX3_addBytesOf 2 = .ok (.istore_n 2, 1) := by decide +kernel
theorem dX3_addBytesOf_3 : decode cX3_addBytesOf 3 = .ok (.iload_n 2, 1) := by decide +kernel
theorem dX3_addBytesOf_4 : decode cX3_addBytesOf 4 = .ok (.ifCond .lt 51, 3) := by decide +kernel
theorem dX3_addBytesOf_7 : decode cX3_addBytesOf 7 = .ok (.aload_n 0, 1) := by decide +kernel
theorem dX3_addBytesOf_8 : decode cX3_addBytesOf 8 = .ok (.getfield 15, 3) := by decide +kernel
theorem dX3_addBytesOf_11 : decode cX3_addBytesOf 11 = .ok (.ifCond .lt 38, 3) := by decide +kernel
theorem dX3_addBytesOf_14 : decode cX3_addBytesOf 14 = .ok (.aload_n 0, 1) := by decide +kernel
theorem dX3_addBytesOf_15 : decode cX3_addBytesOf 15 = .ok (.getfield 15, 3) := by decide +kernel
theorem dX3_addBytesOf_18 : decode cX3_addBytesOf 18 = .ok (.aload_n 0, 1) := by decide +kernel
theorem dX3_addBytesOf_19 : decode cX3_addBytesOf 19 = .ok (.getfield 9, 3) := by decide +kernel
theorem dX3_addBytesOf_22 : decode cX3_addBytesOf 22 = .ok (.arraylength, 1) := by decide +kernel
theorem dX3_addBytesOf_23 : decode cX3_addBytesOf 23 = .ok (.if_icmp .ge 26, 3) := by decide +kernel
theorem dX3_addBytesOf_26 : decode cX3_addBytesOf 26 = .ok (.aload_n 0, 1) := by decide +kernel
theorem dX3_addBytesOf_27 : decode cX3_addBytesOf 27 = .ok (.getfield 9, 3) := by decide +kernel
theorem dX3_addBytesOf_30 : decode cX3_addBytesOf 30 = .ok (.aload_n 0, 1) := by decide +kernel
theorem dX3_addBytesOf_31 : decode cX3_addBytesOf 31 = .ok (.getfield 15, 3) := by decide +kernel
theorem dX3_addBytesOf_34 : decode cX3_addBytesOf 34 = .ok (.iload_n 1, 1) := by decide +kernel
theorem dX3_addBytesOf_35 : decode cX3_addBytesOf 35 = .ok (.iload_n 2, 1) := by decide +kernel
theorem dX3_addBytesOf_36 : decode cX3_addBytesOf 36 = .ok (.ishr, 1) := by decide +kernel
theorem dX3_addBytesOf_37 : decode cX3_addBytesOf 37 = .ok (.i2b, 1) := by decide +kernel
theorem dX3_addBytesOf_38 : decode cX3_addBytesOf 38 = .ok (.bastore, 1) := by decide +kernel
theorem dX3_addBytesOf_39 : decode cX3_addBytesOf 39 = .ok (.aload_n 0, 1) := by decide +kernel
theorem dX3_addBytesOf_40 : decode cX3_addBytesOf 40 = .ok (.dup, 1) := by decide +kernel
theorem dX3_addBytesOf_41 : decode cX3_addBytesOf 41 = .ok (.getfield 15, 3) := by decide +kernel
theorem dX3_addBytesOf_44 : decode cX3_addBytesOf 44 = .ok (.iconst 1, 1) := by decide +kernel
theorem dX3_addBytesOf_45 : decode cX3_addBytesOf 45 = .ok (.iadd, 1) := by decide +kernel
theorem dX3_addBytesOf_46 : decode cX3_addBytesOf 46 = .ok (.putfield 15, 3) := by decide +kernel
theorem dX3_addBytesOf_49 : decode cX3_addBytesOf 49 = .ok (.iinc 2 (-8), 3) := by decide +kernel
theorem dX3_addBytesOf_52 : decode cX3_addBytesOf 52 = .ok (.goto (-49), 3) := by decide +kernel
theorem dX3_addBytesOf_55 : decode cX3_addBytesOf 55 = .ok (.return_, 1) := by decide +kernel
theorem dX3_beginText_0 : decode cX3_beginText 0 = .ok (.aload_n 0, 1) := by decide +kernel
theorem dX3_beginText_1 : decode cX3_beginText 1 = .ok (.iload_n 1, 1) := by decide +kernel
theorem dX3_beginText_2 : decode cX3_beginText 2 = .ok (.putfield 19, 3) := by decide +kernel
theorem dX3_beginText_5 : decode cX3_beginText 5 = .ok (.aload_n 0, 1) := by decide +kernel
theorem dX3_beginText_6 : decode cX3_beginText 6 = .ok (.iconst 0, 1) := by decide +kernel
theorem dX3_beginText_7 : decode cX3_beginText 7 = .ok (.putfield 22, 3) := by decide +kernel
theorem dX3_beginText_10 : decode cX3_beginText 10 = .ok (.aload_n 0, 1) := by decide +kernel
theorem dX3_beginText_11 : decode cX3_beginText 11 = .ok (.invokevirtual 25, 3) := by decide +kernel
theorem dX3_beginText_14 : decode cX3_beginText 14 = .ok (.return_, 1) := by decide +kernel
theorem dX3_advance_0 : decode cX3_advance 0 = .ok (.aload_n 0, 1) := by decide +kernel
theorem dX3_advance_1 : decode cX3_advance 1 = .ok (.getfield 22, 3) := by decide +kernel
theorem dX3_advance_4 : decode cX3_advance 4 = .ok (.aload_n 0, 1) := by decide +kernel
theorem dX3_advance_5 : decode cX3_advance 5 = .ok (.getfield 19, 3) := by decide +kernel
theorem dX3_advance_8 : decode cX3_advance 8 = .ok (.if_icmp .ge 29, 3) := by decide +kernel
theorem dX3_advance_11 : decode cX3_advance 11 = .ok (.aload_n 0, 1) := by decide +kernel
theorem dX3_advance_12 : decode cX3_advance 12 = .ok (.aload_n 0, 1) := by decide +kernel
theorem dX3_advance_13 : decode cX3_advance 13 = .ok (.getfield 22, 3) := by decide +kernel
theorem dX3_advance_16 : decode cX3_advance 16 = .ok (.invokevirtual 28, 3) := by decide +kernel
theorem dX3_advance_19 : decode cX3_advance 19 = .ok (.bipush 32, 2) := by decide +kernel
theorem dX3_advance_21 : decode cX3_advance 21 = .ok (.if_icmp .ne 16, 3) := by decide +kernel
theorem dX3_advance_24 : decode cX3_advance 24 = .ok (.aload_n 0, 1) := by decide +kernel
theorem dX3_advance_25 : decode cX3_advance 25 = .ok (.dup, 1) := by decide +kernel
theorem dX3_advance_26 : decode cX3_advance 26 = .ok (.getfield 22, 3) := by decide +kernel
theorem dX3_advance_29 : decode cX3_advance 29 = .ok (.iconst 1, 1) := by decide +kernel
theorem dX3_advance_30 : decode cX3_advance 30 = .ok (.iadd, 1) := by decide +kernel
theorem dX3_advance_31 : decode cX3_advance 31 = .ok (.putfield 22, 3) := by decide +kernel
theorem dX3_advance_34 : decode cX3_advance 34 = .ok (.goto (-34), 3) := by decide +kernel
theorem dX3_advance_37 : decode cX3_advance 37 = .ok (.aload_n 0, 1) := by decide +kernel
theorem dX3_advance_38 : decode cX3_advance 38 = .ok (.aload_n 0, 1) := by decide +kernel
theorem dX3_advance_39 : decode cX3_advance 39 = .ok (.getfield 22, 3) := by decide +kernel
theorem dX3_advance_42 : decode cX3_advance 42 = .ok (.putfield 32, 3) := by decide +kernel
theorem dX3_advance_45 : decode cX3_advance 45 = .ok (.aload_n 0, 1) := by decide +kernel
theorem dX3_advance_46 : decode cX3_advance 46 = .ok (.aload_n 0, 1) := by decide +kernel
theorem dX3_advance_47 : decode cX3_advance 47 = .ok (.getfield 22, 3) := by decide +kernel
theorem dX3_advance_50 : decode cX3_advance 50 = .ok (.invokevirtual 28, 3) := by decide +kernel
theorem dX3_advance_53 : decode cX3_advance 53 = .ok (.istore_n 1, 1) := by decide +kernel
theorem dX3_advance_54 : decode cX3_advance 54 = .ok (.aload_n 0, 1) := by decide +kernel
theorem dX3_advance_55 : decode cX3_advance 55 = .ok (.getfield 22, 3) := by decide +kernel
theorem dX3_advance_58 : decode cX3_advance 58 = .ok (.aload_n 0, 1) := by decide +kernel
theorem dX3_advance_59 : decode cX3_advance 59 = .ok (.getfield 19, 3) := by decide +kernel
theorem dX3_advance_62 : decode cX3_advance 62 = .ok (.if_icmp .lt 11, 3) := by decide +kernel
theorem dX3_advance_65 : decode cX3_advance 65 = .ok (.aload_n 0, 1) := by decide +kernel
theorem dX3_advance_66 : decode cX3_advance 66 = .ok (.iconst 0, 1) := by decide +kernel
theorem dX3_advance_67 : decode cX3_advance 67 = .ok (.putfield 35, 3) := by decide +kernel
theorem dX3_advance_70 : decode cX3_advance 70 = .ok (.goto 66, 3) := by decide +kernel
theorem dX3_advance_73 : decode cX3_advance 73 = .ok (.iload_n 1, 1) := by decide +kernel
theorem dX3_advance_74 : decode cX3_advance 74 = .ok (.invokestatic 38, 3) := by decide +kernel
theorem dX3_advance_77 : decode cX3_advance 77 = .ok (.ifCond .eq 15, 3) := by decide +kernel
theorem dX3_advance_80 : decode cX3_advance 80 = .ok (.aload_n 0, 1) := by decide +kernel
theorem dX3_advance_81 : decode cX3_advance 81 = .ok (.iconst 1, 1) := by decide +kernel
theorem dX3_advance_82 : decode cX3_advance 82 = .ok (.putfield 35, 3) := by decide +kernel
theorem dX3_advance_85 : decode cX3_advance 85 = .ok (.aload_n 0, 1) := by decide +kernel
theorem dX3_advance_86 : decode cX3_advance 86 = .ok (.invokevirtual 42, 3) := by decide +kernel
theorem dX3_advance_89 : decode cX3_advance 89 = .ok (.goto 47, 3) := by decide +kernel
theorem dX3_advance_92 : decode cX3_advance 92 = .ok (.iload_n 1, 1) := by decide +kernel
theorem dX3_advance_93 : decode cX3_advance 93 = .ok (.invokestatic 45, 3) := by decide +kernel
theorem dX3_advance_96 : decode cX3_advance 96 = .ok (.ifCond .eq 15, 3) := by decide +kernel
theorem dX3_advance_99 : decode cX3_advance 99 = .ok (.aload_n 0, 1) := by decide +kernel
theorem dX3_advance_100 : decode cX3_advance 100 = .ok (.iconst 2, 1) := by decide +kernel
theorem dX3_advance_101 : decode cX3_advance 101 = .ok (.putfield 35, 3) := by decide +kernel
theorem dX3_advance_104 : decode cX3_advance 104 = .ok (.aload_n 0, 1) := by decide +kernel
theorem dX3_advance_105 : decode cX3_advance 105 = .ok (.invokevirtual 48, 3) := by decide +kernel
theorem dX3_advance_108 : decode cX3_advance 108 = .ok (.goto 28, 3) := by decide +kernel
theorem dX3_advance_111 : decode cX3_advance 111 = .ok (.aload_n 0, 1) := by decide +kernel
theorem dX3_advance_112 : decode cX3_advance 112 = .ok (.iload_n 1, 1) := by decide +kernel
theorem dX3_advance_113 : decode cX3_advance 113 = .ok (.bipush 59, 2) := by decide +kernel
theorem dX3_advance_115 : decode cX3_advance 115 = .ok (.if_icmp .ne 7, 3) := by decide +kernel
theorem dX3_advance_118 : decode cX3_advance 118 = .ok (.iconst 3, 1) := by decide +kernel
theorem dX3_advance_119 : decode cX3_advance 119 = .ok (.goto 4, 3) := by decide +kernel
theorem dX3_advance_122 : decode cX3_advance 122 = .ok (.iconst 4, 1) := by decide +kernel
theorem dX3_advance_123 : decode cX3_advance 123 = .ok (.putfield 35, 3) := by decide +kernel
theorem dX3_advance_126 : decode cX3_advance 126 = .ok (.aload_n 0, 1) := by decide +kernel
theorem dX3_advance_127 : decode cX3_advance 127 = .ok (.dup, 1) := by decide +kernel
theorem dX3_advance_128 : decode cX3_advance 128 = .ok (.getfield 22, 3) := by decide +kernel
theorem dX3_advance_131 : decode cX3_advance 131 = .ok (.iconst 1, 1) := by decide +kernel
theorem dX3_advance_132 : decode cX3_advance 132 = .ok (.iadd, 1) := by decide +kernel
theorem dX3_advance_133 : decode cX3_advance 133 = .ok (.putfield 22, 3) := by decide +kernel
theorem dX3_advance_136 : decode cX3_advance 136 = .ok (.return_, 1) := by decide +kernel
theorem dX3_readNumber_0 : decode cX3_readNumber 0 = .ok (.aload_n 0, 1) := by decide +kernel
theorem dX3_readNumber_1 : decode cX3_readNumber 1 = .ok (.iconst 0, 1) := by decide +kernel
theorem dX3_readNumber_2 : decode cX3_readNumber 2 = .ok (.putfield 51, 3) := by decide +kernel
theorem dX3_readNumber_5 : decode cX3_readNumber 5 = .ok (.aload_n 0, 1) := by decide +kernel
theorem dX3_readNumber_6 : decode cX3_readNumber 6 = .ok (.getfield 22, 3) := by decide +kernel
theorem dX3_readNumber_9 : decode cX3_readNumber 9 = .ok (.aload_n 0, 1) := by decide +kernel
theorem dX3_readNumber_10 : decode cX3_readNumber 10 = .ok (.getfield 19, 3) := by decide +kernel
theorem dX3_readNumber_13 : decode cX3_readNumber 13 = .ok (.if_icmp .ge 59, 3) := by decide +kernel
theorem dX3_readNumber_16 : decode cX3_readNumber 16 = .ok (.aload_n 0, 1) := by decide +kernel
theorem dX3_readNumber_17 : decode cX3_readNumber 17 = .ok (.aload_n 0, 1) := by decide +kernel
theorem dX3_readNumber_18 : decode cX3_readNumber 18 = .ok (.getfield 22, 3) := by decide +kernel
theorem dX3_readNumber_21 : decode cX3_readNumber 21 = .ok (.invokevirtual 28, 3) := by decide +kernel
theorem dX3_readNumber_24 : decode cX3_readNumber 24 = .ok (.invokestatic 38, 3) := by decide +kernel
theorem dX3_readNumber_27 : decode cX3_readNumber 27 = .ok (.ifCond .eq 45, 3) := by decide +kernel
theorem dX3_readNumber_30 : decode cX3_readNumber 30 = .ok (.aload_n 0, 1) := by decide +kernel
theorem dX3_readNumber_31 : decode cX3_readNumber 31 = .ok (.bipush 10, 2) := by decide +kernel
theorem dX3_readNumber_33 : decode cX3_readNumber 33 = .ok (.aload_n 0, 1) := by decide +kernel
theorem dX3_readNumber_34 : decode cX3_readNumber 34 = .ok (.getfield 51, 3) := by decide +kernel
theorem dX3_readNumber_37 : decode cX3_readNumber 37 = .ok (.imul, 1) := by decide +kernel
theorem dX3_readNumber_38 : decode cX3_readNumber 38 = .ok (.aload_n 0, 1) := by decide +kernel
theorem dX3_readNumber_39 : decode cX3_readNumber 39 = .ok (.aload_n 0, 1) := by decide +kernel
theorem dX3_readNumber_40 : decode cX3_readNumber 40 = .ok (.getfield 22, 3) := by decide +kernel
theorem dX3_readNumber_43 : decode cX3_readNumber 43 = .ok (.invokevirtual 28, 3) := by decide +kernel
theorem dX3_readNumber_46 : decode cX3_readNumber 46 = .ok (.bipush 48, 2) := by decide +kernel
theorem dX3_readNumber_48 : decode cX3_readNumber 48 = .ok (.isub, 1) := by decide +kernel
theorem dX3_readNumber_49 : decode cX3_readNumber 49 = .ok (.iadd, 1) := by decide +kernel
theorem dX3_readNumber_50 : decode cX3_readNumber 50 = .ok (.sipush 1000, 3) := by decide +kernel
theorem dX3_readNumber_53 : decode cX3_readNumber 53 = .ok (.invokestatic 54, 3) := by decide +kernel
theorem dX3_readNumber_56 : decode cX3_readNumber 56 = .ok (.putfield 51, 3) := by decide +kernel
theorem dX3_readNumber_59 : decode cX3_readNumber 59 = .ok (.aload_n 0, 1) := by decide +kernel
theorem dX3_readNumber_60 : decode cX3_readNumber 60 = .ok (.dup, 1) := by decide +kernel
theorem dX3_readNumber_61 : decode cX3_readNumber 61 = .ok (.getfield 22, 3) := by decide +kernel
theorem dX3_readNumber_64 : decode cX3_readNumber 64 = .ok (.iconst 1, 1) := by decide +kernel
theorem dX3_readNumber_65 : decode cX3_readNumber 65 = .ok (.iadd, 1) := by decide +kernel
theorem dX3_readNumber_66 : decode cX3_readNumber 66 = .ok (.putfield 22, 3) := by decide +kernel
theorem dX3_readNumber_69 : decode cX3_readNumber 69 = .ok (.goto (-64), 3) := by decide +kernel
theorem dX3_readNumber_72 : decode cX3_readNumber 72 = .ok (.return_, 1) := by decide +kernel
theorem dX3_readWord_0 : decode cX3_readWord 0 = .ok (.aload_n 0, 1) := by decide +kernel
theorem dX3_readWord_1 : decode cX3_readWord 1 = .ok (.iconst 0, 1) := by decide +kernel
theorem dX3_readWord_2 : decode cX3_readWord 2 = .ok (.putfield 60, 3) := by decide +kernel
theorem dX3_readWord_5 : decode cX3_readWord 5 = .ok (.aload_n 0, 1) := by decide +kernel
theorem dX3_readWord_6 : decode cX3_readWord 6 = .ok (.iconst 0, 1) := by decide +kernel
theorem dX3_readWord_7 : decode cX3_readWord 7 = .ok (.putfield 63, 3) := by decide +kernel
theorem dX3_readWord_10 : decode cX3_readWord 10 = .ok (.aload_n 0, 1) := by decide +kernel
theorem dX3_readWord_11 : decode cX3_readWord 11 = .ok (.getfield 22, 3) := by decide +kernel
theorem dX3_readWord_14 : decode cX3_readWord 14 = .ok (.aload_n 0, 1) := by decide +kernel
theorem dX3_readWord_15 : decode cX3_readWord 15 = .ok (.getfield 19, 3) := by decide +kernel
theorem dX3_readWord_18 : decode cX3_readWord 18 = .ok (.if_icmp .ge 59, 3) := by decide +kernel
theorem dX3_readWord_21 : decode cX3_readWord 21 = .ok (.aload_n 0, 1) := by decide +kernel
theorem dX3_readWord_22 : decode cX3_readWord 22 = .ok (.aload_n 0, 1) := by decide +kernel
theorem dX3_readWord_23 : decode cX3_readWord 23 = .ok (.getfield 22, 3) := by decide +kernel
theorem dX3_readWord_26 : decode cX3_readWord 26 = .ok (.invokevirtual 28, 3) := by decide +kernel
theorem dX3_readWord_29 : decode cX3_readWord 29 = .ok (.invokestatic 45, 3) := by decide +kernel
theorem dX3_readWord_32 : decode cX3_readWord 32 = .ok (.ifCond .eq 45, 3) := by decide +kernel
theorem dX3_readWord_35 : decode cX3_readWord 35 = .ok (.aload_n 0, 1) := by decide +kernel
theorem dX3_readWord_36 : decode cX3_readWord 36 = .ok (.dup, 1) := by decide +kernel
theorem dX3_readWord_37 : decode cX3_readWord 37 = .ok (.getfield 60, 3) := by decide +kernel
theorem dX3_readWord_40 : decode cX3_readWord 40 = .ok (.iconst 1, 1) := by decide +kernel
theorem dX3_readWord_41 : decode cX3_readWord 41 = .ok (.iadd, 1) := by decide +kernel
theorem dX3_readWord_42 : decode cX3_readWord 42 = .ok (.putfield 60, 3) := by decide +kernel
theorem dX3_readWord_45 : decode cX3_readWord 45 = .ok (.aload_n 0, 1) := by decide +kernel
theorem dX3_readWord_46 : decode cX3_readWord 46 = .ok (.aload_n 0, 1) := by decide +kernel
theorem dX3_readWord_47 : decode cX3_readWord 47 = .ok (.getfield 63, 3) := by decide +kernel
theorem dX3_readWord_50 : decode cX3_readWord 50 = .ok (.aload_n 0, 1) := by decide +kernel
theorem dX3_readWord_51 : decode cX3_readWord 51 = .ok (.aload_n 0, 1) := by decide +kernel
theorem dX3_readWord_52 : decode cX3_readWord 52 = .ok (.getfield 22, 3) := by decide +kernel
theorem dX3_readWord_55 : decode cX3_readWord 55 = .ok (.invokevirtual 28, 3) := by decide +kernel
theorem dX3_readWord_58 : decode cX3_readWord 58 = .ok (.invokestatic 66, 3) := by decide +kernel
theorem dX3_readWord_61 : decode cX3_readWord 61 = .ok (.putfield 63, 3) := by decide +kernel
theorem dX3_readWord_64 : decode cX3_readWord 64 = .ok (.aload_n 0, 1) := by decide +kernel
theorem dX3_readWord_65 : decode cX3_readWord 65 = .ok (.dup, 1) := by decide +kernel
theorem dX3_readWord_66 : decode cX3_readWord 66 = .ok (.getfield 22, 3) := by decide +kernel
theorem dX3_readWord_69 : decode cX3_readWord 69 = .ok (.iconst 1, 1) := by decide +kernel
theorem dX3_readWord_70 : decode cX3_readWord 70 = .ok (.iadd, 1) := by decide +kernel
theorem dX3_readWord_71 : decode cX3_readWord 71 = .ok (.putfield 22, 3) := by decide +kernel
theorem dX3_readWord_74 : decode cX3_readWord 74 = .ok (.goto (-64), 3) := by decide +kernel
theorem dX3_readWord_77 : decode cX3_readWord 77 = .ok (.return_, 1) := by decide +kernel
theorem dX3_isWord_0 : decode cX3_isWord 0 = .ok (.aload_n 0, 1) := by decide +kernel
theorem dX3_isWord_1 : decode cX3_isWord 1 = .ok (.getfield 35, 3) := by decide +kernel
theorem dX3_isWord_4 : decode cX3_isWord 4 = .ok (.iconst 2, 1) := by decide +kernel
theorem dX3_isWord_5 : decode cX3_isWord 5 = .ok (.if_icmp .ne 14, 3) := by decide +kernel
theorem dX3_isWord_8 : decode cX3_isWord 8 = .ok (.aload_n 0, 1) := by decide +kernel
theorem dX3_isWord_9 : decode cX3_isWord 9 = .ok (.getfield 60, 3) := by decide +kernel
theorem dX3_isWord_12 : decode cX3_isWord 12 = .ok (.aload_n 1, 1) := by decide +kernel
theorem dX3_isWord_13 : decode cX3_isWord 13 = .ok (.invokevirtual 69, 3) := by decide +kernel
theorem dX3_isWord_16 : decode cX3_isWord 16 = .ok (.if_icmp .eq 5, 3) := by decide +kernel
theorem dX3_isWord_19 : decode cX3_isWord 19 = .ok (.iconst 0, 1) := by decide +kernel
theorem dX3_isWord_20 : decode cX3_isWord 20 = .ok (.ireturn, 1) := by decide +kernel
theorem dX3_isWord_21 : decode cX3_isWord 21 = .ok (.iconst 0, 1) := by decide +kernel
theorem dX3_isWord_22 : decode cX3_isWord 22 = .ok (.istore_n 2, 1) := by decide +kernel
theorem dX3_isWord_23 : decode cX3_isWord 23 = .ok (.iconst 0, 1) := by decide +kernel
theorem dX3_isWord_24 : decode cX3_isWord 24 = .ok (.istore_n 3, 1) := by decide +kernel
theorem dX3_isWord_25 : decode cX3_isWord 25 = .ok (.iload_n 3, 1) := by decide +kernel
theorem dX3_isWord_26 : decode cX3_isWord 26 = .ok (.aload_n 1, 1) := by decide +kernel
theorem dX3_isWord_27 : decode cX3_isWord 27 = .ok (.invokevirtual 69, 3) := by decide +kernel
theorem dX3_isWord_30 : decode cX3_isWord 30 = .ok (.if_icmp .ge 19, 3) := by decide +kernel
theorem dX3_isWord_33 : decode cX3_isWord 33 = .ok (.iload_n 2, 1) := by decide +kernel
theorem dX3_isWord_34 : decode cX3_isWord 34 = .ok (.aload_n 1, 1) := by decide +kernel
theorem dX3_isWord_35 : decode cX3_isWord 35 = .ok (.iload_n 3, 1) := by decide +kernel
theorem dX3_isWord_36 : decode cX3_isWord 36 = .ok (.invokevirtual 75, 3) := by decide +kernel
theorem dX3_isWord_39 : decode cX3_isWord 39 = .ok (.invokestatic 66, 3) := by decide +kernel
theorem dX3_isWord_42 : decode cX3_isWord 42 = .ok (.istore_n 2, 1) := by decide +kernel
theorem dX3_isWord_43 : decode cX3_isWord 43 = .ok (.iinc 3 1, 3) := by decide +kernel
theorem dX3_isWord_46 : decode cX3_isWord 46 = .ok (.goto (-21), 3) := by decide +kernel
theorem dX3_isWord_49 : decode cX3_isWord 49 = .ok (.aload_n 0, 1) := by decide +kernel
theorem dX3_isWord_50 : decode cX3_isWord 50 = .ok (.getfield 63, 3) := by decide +kernel
theorem dX3_isWord_53 : decode cX3_isWord 53 = .ok (.iload_n 2, 1) := by decide +kernel
theorem dX3_isWord_54 : decode cX3_isWord 54 = .ok (.if_icmp .ne 7, 3) := by decide +kernel
theorem dX3_isWord_57 : decode cX3_isWord 57 = .ok (.iconst 1, 1) := by decide +kernel
theorem dX3_isWord_58 : decode cX3_isWord 58 = .ok (.goto 4, 3) := by decide +kernel
theorem dX3_isWord_61 : decode cX3_isWord 61 = .ok (.iconst 0, 1) := by decide +kernel
theorem dX3_isWord_62 : decode cX3_isWord 62 = .ok (.ireturn, 1) := by decide +kernel
theorem dX3_nameOfFirst_0 : decode cX3_nameOfFirst 0 = .ok (.iload_n 1, 1) := by decide +kernel
theorem dX3_nameOfFirst_1 : decode cX3_nameOfFirst 1 = .ok (.iconst 1, 1) := by decide +kernel
theorem dX3_nameOfFirst_2 : decode cX3_nameOfFirst 2 = .ok (.if_icmp .lt 9, 3) := by decide +kernel
theorem dX3_nameOfFirst_5 : decode cX3_nameOfFirst 5 = .ok (.iload_n 1, 1) := by decide +kernel
theorem dX3_nameOfFirst_6 : decode cX3_nameOfFirst 6 = .ok (.bipush 6, 2) := by decide +kernel
theorem dX3_nameOfFirst_8 : decode cX3_nameOfFirst 8 = .ok (.if_icmp .le 5, 3) := by decide +kernel
theorem dX3_nameOfFirst_11 : decode cX3_nameOfFirst 11 = .ok (.iconst 0, 1) := by decide +kernel
theorem dX3_nameOfFirst_12 : decode cX3_nameOfFirst 12 = .ok (.ireturn, 1) := by decide +kernel
theorem dX3_nameOfFirst_13 : decode cX3_nameOfFirst 13 = .ok (.iconst 0, 1) := by decide +kernel
theorem dX3_nameOfFirst_14 : decode cX3_nameOfFirst 14 = .ok (.istore_n 2, 1) := by decide +kernel
theorem dX3_nameOfFirst_15 : decode cX3_nameOfFirst 15 = .ok (.iconst 0, 1) := by decide +kernel
theorem dX3_nameOfFirst_16 : decode cX3_nameOfFirst 16 = .ok (.istore_n 3, 1) := by decide +kernel
theorem dX3_nameOfFirst_17 : decode cX3_nameOfFirst 17 = .ok (.iload_n 3, 1) := by decide +kernel
theorem dX3_nameOfFirst_18 : decode cX3_nameOfFirst 18 = .ok (.iload_n 1, 1) := by decide +kernel
theorem dX3_nameOfFirst_19 : decode cX3_nameOfFirst 19 = .ok (.if_icmp .ge 32, 3) := by decide +kernel
theorem dX3_nameOfFirst_22 : decode cX3_nameOfFirst 22 = .ok (.aload_n 0, 1) := by decide +kernel
theorem dX3_nameOfFirst_23 : decode cX3_nameOfFirst 23 = .ok (.iload_n 3, 1) := by decide +kernel
theorem dX3_nameOfFirst_24 : decode cX3_nameOfFirst 24 = .ok (.invokevirtual 28, 3) := by decide +kernel
theorem dX3_nameOfFirst_27 : decode cX3_nameOfFirst 27 = .ok (.invokestatic 45, 3) := by decide +kernel
theorem dX3_nameOfFirst_30 : decode cX3_nameOfFirst 30 = .ok (.ifCond .ne 5, 3) := by decide +kernel
theorem dX3_nameOfFirst_33 : decode cX3_nameOfFirst 33 = .ok (.iconst 0, 1) := by decide +kernel
theorem dX3_nameOfFirst_34 : decode cX3_nameOfFirst 34 = .ok (.ireturn, 1) := by decide +kernel
theorem dX3_nameOfFirst_35 : decode cX3_nameOfFirst 35 = .ok (.iload_n 2, 1) := by decide +kernel
theorem dX3_nameOfFirst_36 : decode cX3_nameOfFirst 36 = .ok (.aload_n 0, 1) := by decide +kernel
theorem dX3_nameOfFirst_37 : decode cX3_nameOfFirst 37 = .ok (.iload_n 3, 1) := by decide +kernel
theorem dX3_nameOfFirst_38 : decode cX3_nameOfFirst 38 = .ok (.invokevirtual 28, 3) := by decide +kernel
theorem dX3_nameOfFirst_41 : decode cX3_nameOfFirst 41 = .ok (.invokestatic 66, 3) := by decide +kernel
theorem dX3_nameOfFirst_44 : decode cX3_nameOfFirst 44 = .ok (.istore_n 2, 1) := by decide +kernel
theorem dX3_nameOfFirst_45 : decode cX3_nameOfFirst 45 = .ok (.iinc 3 1, 3) := by decide +kernel
theorem dX3_nameOfFirst_48 : decode cX3_nameOfFirst 48 = .ok (.goto (-31), 3) := by decide +kernel
theorem dX3_nameOfFirst_51 : decode cX3_nameOfFirst 51 = .ok (.iload_n 2, 1) := by decide +kernel
theorem dX3_nameOfFirst_52 : decode cX3_nameOfFirst 52 = .ok (.ireturn, 1) := by decide +kernel
theorem dX3_byteAt_0 : decode cX3_byteAt 0 = .ok (.iload_n 1, 1) := by decide +kernel
theorem dX3_byteAt_1 : decode cX3_byteAt 1 = .ok (.ifCond .lt 29, 3) := by decide +kernel
theorem dX3_byteAt_4 : decode cX3_byteAt 4 = .ok (.iload_n 1, 1) := by decide +kernel
theorem dX3_byteAt_5 : decode cX3_byteAt 5 = .ok (.aload_n 0, 1) := by decide +kernel
theorem dX3_byteAt_6 : decode cX3_byteAt 6 = .ok (.getfield 15, 3) := by decide +kernel
theorem dX3_byteAt_9 : decode cX3_byteAt 9 = .ok (.if_icmp .ge 21, 3) := by decide +kernel
theorem dX3_byteAt_12 : decode cX3_byteAt 12 = .ok (.iload_n 1, 1) := by decide +kernel
theorem dX3_byteAt_13 : decode cX3_byteAt 13 = .ok (.aload_n 0, 1) := by decide +kernel
theorem dX3_byteAt_14 : decode cX3_byteAt 14 = .ok (.getfield 9, 3) := by decide +kernel
theorem dX3_byteAt_17 : decode cX3_byteAt 17 = .ok (.arraylength, 1) := by decide +kernel
theorem dX3_byteAt_18 : decode cX3_byteAt 18 = .ok (.if_icmp .ge 12, 3) := by decide +kernel
theorem dX3_byteAt_21 : decode cX3_byteAt 21 = .ok (.aload_n 0, 1) := by decide +kernel
theorem dX3_byteAt_22 : decode cX3_byteAt 22 = .ok (.getfield 9, 3) := by decide +kernel
theorem dX3_byteAt_25 : decode cX3_byteAt 25 = .ok (.iload_n 1, 1) := by decide +kernel
theorem dX3_byteAt_26 : decode cX3_byteAt 26 = .ok (.baload, 1) := by decide +kernel
theorem dX3_byteAt_27 : decode cX3_byteAt 27 = .ok (.goto 4, 3) := by decide +kernel
theorem dX3_byteAt_30 : decode cX3_byteAt 30 = .ok (.iconst 0, 1) := by decide +kernel
theorem dX3_byteAt_31 : decode cX3_byteAt 31 = .ok (.ireturn, 1) := by decide +kernel
theorem dX3_nameWith_0 : decode cX3_nameWith 0 = .ok (.bipush 27, 2) := by decide +kernel
theorem dX3_nameWith_2 : decode cX3_nameWith 2 = .ok (.iload_n 0, 1) := by decide +kernel
theorem dX3_nameWith_3 : decode cX3_nameWith 3 = .ok (.imul, 1) := by decide +kernel
theorem dX3_nameWith_4 : decode cX3_nameWith 4 = .ok (.iload_n 1, 1) := by decide +kernel
theorem dX3_nameWith_5 : decode cX3_nameWith 5 = .ok (.bipush 97, 2) := by decide +kernel
theorem dX3_nameWith_7 : decode cX3_nameWith 7 = .ok (.isub, 1) := by decide +kernel
theorem dX3_nameWith_8 : decode cX3_nameWith 8 = .ok (.iconst 1, 1) := by decide +kernel
theorem dX3_nameWith_9 : decode cX3_nameWith 9 = .ok (.iadd, 1) := by decide +kernel
theorem dX3_nameWith_10 : decode cX3_nameWith 10 = .ok (.iadd, 1) := by decide +kernel
theorem dX3_nameWith_11 : decode cX3_nameWith 11 = .ok (.ireturn, 1) := by decide +kernel
theorem dX3_isDigit_0 : decode cX3_isDigit 0 = .ok (.iload_n 0, 1) := by decide +kernel
theorem dX3_isDigit_1 : decode cX3_isDigit 1 = .ok (.bipush 48, 2) := by decide +kernel
theorem dX3_isDigit_3 : decode cX3_isDigit 3 = .ok (.if_icmp .lt 13, 3) := by decide +kernel
theorem dX3_isDigit_6 : decode cX3_isDigit 6 = .ok (.iload_n 0, 1) := by decide +kernel
theorem dX3_isDigit_7 : decode cX3_isDigit 7 = .ok (.bipush 57, 2) := by decide +kernel
theorem dX3_isDigit_9 : decode cX3_isDigit 9 = .ok (.if_icmp .gt 7, 3) := by decide +kernel
theorem dX3_isDigit_12 : decode cX3_isDigit 12 = .ok (.iconst 1, 1) := by decide +kernel
theorem dX3_isDigit_13 : decode cX3_isDigit 13 = .ok (.goto 4, 3) := by decide +kernel
theorem dX3_isDigit_16 : decode cX3_isDigit 16 = .ok (.iconst 0, 1) := by decide +kernel
theorem dX3_isDigit_17 : decode cX3_isDigit 17 = .ok (.ireturn, 1) := by decide +kernel
theorem dX3_isLetter_0 : decode cX3_isLetter 0 = .ok (.iload_n 0, 1) := by decide +kernel
theorem dX3_isLetter_1 : decode cX3_isLetter 1 = .ok (.bipush 97, 2) := by decide +kernel
theorem dX3_isLetter_3 : decode cX3_isLetter 3 = .ok (.if_icmp .lt 13, 3) := by decide +kernel
theorem dX3_isLetter_6 : decode cX3_isLetter 6 = .ok (.iload_n 0, 1) := by decide +kernel
theorem dX3_isLetter_7 : decode cX3_isLetter 7 = .ok (.bipush 122, 2) := by decide +kernel
theorem dX3_isLetter_9 : decode cX3_isLetter 9 = .ok (.if_icmp .gt 7, 3) := by decide +kernel
theorem dX3_isLetter_12 : decode cX3_isLetter 12 = .ok (.iconst 1, 1) := by decide +kernel
theorem dX3_isLetter_13 : decode cX3_isLetter 13 = .ok (.goto 4, 3) := by decide +kernel
theorem dX3_isLetter_16 : decode cX3_isLetter 16 = .ok (.iconst 0, 1) := by decide +kernel
theorem dX3_isLetter_17 : decode cX3_isLetter 17 = .ok (.ireturn, 1) := by decide +kernel
theorem dX4_init_0 : decode cX4_init 0 = .ok (.aload_n 0, 1) := by decide +kernel
theorem dX4_init_1 : decode cX4_init 1 = .ok (.invokespecial 3, 3) := by decide +kernel
theorem dX4_init_4 : decode cX4_init 4 = .ok (.aload_n 0, 1) := by decide +kernel
theorem dX4_init_5 : decode cX4_init 5 = .ok (.bipush 10, 2) := by decide +kernel
theorem dX4_init_7 : decode cX4_init 7 = .ok (.newarray .int, 2) := by decide +kernel
theorem dX4_init_9 : decode cX4_init 9 = .ok (.putfield 9, 3) := by decide +kernel
theorem dX4_init_12 : decode cX4_init 12 = .ok (.return_, 1) := by decide +kernel
theorem dX4_copyFrom_0 : decode cX4_copyFrom 0 = .ok (.aload_n 0, 1) := by decide +kernel
theorem dX4_copyFrom_1 : decode cX4_copyFrom 1 = .ok (.aload_n 1, 1) := by decide +kernel
theorem dX4_copyFrom_2 : decode cX4_copyFrom 2 = .ok (.getfield 15, 3) := by decide +kernel
theorem dX4_copyFrom_5 : decode cX4_copyFrom 5 = .ok (.putfield 15, 3) := by decide +kernel
theorem dX4_copyFrom_8 : decode cX4_copyFrom 8 = .ok (.iconst 0, 1) := by decide +kernel
theorem dX4_copyFrom_9 : decode cX4_copyFrom 9 = .ok (.istore_n 2, 1) := by decide +kernel
theorem dX4_copyFrom_10 : decode cX4_copyFrom 10 = .ok (.iload_n 2, 1) := by decide +kernel
theorem dX4_copyFrom_11 : decode cX4_copyFrom 11 = .ok (.aload_n 0, 1) := by decide +kernel
theorem dX4_copyFrom_12 : decode cX4_copyFrom 12 = .ok (.getfield 9, 3) := by decide +kernel
theorem dX4_copyFrom_15 : decode cX4_copyFrom 15 = .ok (.arraylength, 1) := by decide +kernel
theorem dX4_copyFrom_16 : decode cX4_copyFrom 16 = .ok (.if_icmp .ge 30, 3) := by decide +kernel
theorem dX4_copyFrom_19 : decode cX4_copyFrom 19 = .ok (.iload_n 2, 1) := by decide +kernel
theorem dX4_copyFrom_20 : decode cX4_copyFrom 20 = .ok (.aload_n 1, 1) := by decide +kernel
theorem dX4_copyFrom_21 : decode cX4_copyFrom 21 = .ok (.getfield 9, 3) := by decide +kernel
theorem dX4_copyFrom_24 : decode cX4_copyFrom 24 = .ok (.arraylength, 1) := by decide +kernel
theorem dX4_copyFrom_25 : decode cX4_copyFrom 25 = .ok (.if_icmp .ge 21, 3) := by decide +kernel
theorem dX4_copyFrom_28 : decode cX4_copyFrom 28 = .ok (.aload_n 0, 1) := by decide +kernel
theorem dX4_copyFrom_29 : decode cX4_copyFrom 29 = .ok (.getfield 9, 3) := by decide +kernel
theorem dX4_copyFrom_32 : decode cX4_copyFrom 32 = .ok (.iload_n 2, 1) := by decide +kernel
theorem dX4_copyFrom_33 : decode cX4_copyFrom 33 = .ok (.aload_n 1, 1) := by decide +kernel
theorem dX4_copyFrom_34 : decode cX4_copyFrom 34 = .ok (.getfield 9, 3) := by decide +kernel
theorem dX4_copyFrom_37 : decode cX4_copyFrom 37 = .ok (.iload_n 2, 1) := by decide +kernel
theorem dX4_copyFrom_38 : decode cX4_copyFrom 38 = .ok (.iaload, 1) := by decide +kernel
theorem dX4_copyFrom_39 : decode cX4_copyFrom 39 = .ok (.iastore, 1) := by decide +kernel
theorem dX4_copyFrom_40 : decode cX4_copyFrom 40 = .ok (.iinc 2 1, 3) := by decide +kernel
theorem dX4_copyFrom_43 : decode cX4_copyFrom 43 = .ok (.goto (-33), 3) := by decide +kernel
theorem dX4_copyFrom_46 : decode cX4_copyFrom 46 = .ok (.return_, 1) := by decide +kernel
theorem dX4_isFull_0 : decode cX4_isFull 0 = .ok (.aload_n 0, 1) := by decide +kernel
theorem dX4_isFull_1 : decode cX4_isFull 1 = .ok (.getfield 15, 3) := by decide +kernel
theorem dX4_isFull_4 : decode cX4_isFull 4 = .ok (.aload_n 0, 1) := by decide +kernel
theorem dX4_isFull_5 : decode cX4_isFull 5 = .ok (.getfield 9, 3) := by decide +kernel
theorem dX4_isFull_8 : decode cX4_isFull 8 = .ok (.arraylength, 1) := by decide +kernel
theorem dX4_isFull_9 : decode cX4_isFull 9 = .ok (.if_icmp .lt 7, 3) := by decide +kernel
theorem dX4_isFull_12 : decode cX4_isFull 12 = .ok (.iconst 1, 1) := by decide +kernel
theorem dX4_isFull_13 : decode cX4_isFull 13 = .ok (.goto 4, 3) := by decide +kernel
theorem dX4_isFull_16 : decode cX4_isFull 16 = .ok (.iconst 0, 1) := by decide +kernel
theorem dX4_isFull_17 : decode cX4_isFull 17 = .ok (.ireturn, 1) := by decide +kernel
theorem dX4_hasPlace_0 : decode cX4_hasPlace 0 = .ok (.iload_n 1, 1) := by decide +kernel
theorem dX4_hasPlace_1 : decode cX4_hasPlace 1 = .ok (.ifCond .lt 24, 3) := by decide +kernel
theorem dX4_hasPlace_4 : decode cX4_hasPlace 4 = .ok (.iload_n 1, 1) := by decide +kernel
theorem dX4_hasPlace_5 : decode cX4_hasPlace 5 = .ok (.aload_n 0, 1) := by decide +kernel
theorem dX4_hasPlace_6 : decode cX4_hasPlace 6 = .ok (.getfield 15, 3) := by decide +kernel
theorem dX4_hasPlace_9 : decode cX4_hasPlace 9 = .ok (.if_icmp .ge 16, 3) := by decide +kernel
theorem dX4_hasPlace_12 : decode cX4_hasPlace 12 = .ok (.iload_n 1, 1) := by decide +kernel
theorem dX4_hasPlace_13 : decode cX4_hasPlace 13 = .ok (.aload_n 0, 1) := by decide +kernel
theorem dX4_hasPlace_14 : decode cX4_hasPlace 14 = .ok (.getfield 9, 3) := by decide +kernel
theorem dX4_hasPlace_17 : decode cX4_hasPlace 17 = .ok (.arraylength, 1) := by decide +kernel
theorem dX4_hasPlace_18 : decode cX4_hasPlace 18 = .ok (.if_icmp .ge 7, 3) := by decide +kernel
theorem dX4_hasPlace_21 : decode cX4_hasPlace 21 = .ok (.iconst 1, 1) := by decide +kernel
theorem dX4_hasPlace_22 : decode cX4_hasPlace 22 = .ok (.goto 4, 3) := by decide +kernel
theorem dX4_hasPlace_25 : decode cX4_hasPlace 25 = .ok (.iconst 0, 1) := by decide +kernel
theorem dX4_hasPlace_26 : decode cX4_hasPlace 26 = .ok (.ireturn, 1) := by decide +kernel
theorem dX4_cardAt_0 : decode cX4_cardAt 0 = .ok (.aload_n 0, 1) := by decide +kernel
theorem dX4_cardAt_1 : decode cX4_cardAt 1 = .ok (.iload_n 1, 1) := by decide +kernel
theorem dX4_cardAt_2 : decode cX4_cardAt 2 = .ok (.invokevirtual 19, 3) := by decide +kernel
theorem dX4_cardAt_5 : decode cX4_cardAt 5 = .ok (.ifCond .eq 12, 3) := by decide +kernel
theorem dX4_cardAt_8 : decode cX4_cardAt 8 = .ok (.aload_n 0, 1) := by decide +kernel
theorem dX4_cardAt_9 : decode cX4_cardAt 9 = .ok (.getfield 9, 3) := by decide +kernel
theorem dX4_cardAt_12 : decode cX4_cardAt 12 = .ok (.iload_n 1, 1) := by decide +kernel
theorem dX4_cardAt_13 : decode cX4_cardAt 13 = .ok (.iaload, 1) := by decide +kernel
theorem dX4_cardAt_14 : decode cX4_cardAt 14 = .ok (.goto 4, 3) := by decide +kernel
theorem dX4_cardAt_17 : decode cX4_cardAt 17 = .ok (.iconst (-1), 1) := by decide +kernel
theorem dX4_cardAt_18 : decode cX4_cardAt 18 = .ok (.ireturn, 1) := by decide +kernel
theorem dX4_placeOf_0 : decode cX4_placeOf 0 = .ok (.iconst 0, 1) := by decide +kernel
theorem dX4_placeOf_1 : decode cX4_placeOf 1 = .ok (.istore_n 2, 1) := by decide +kernel
theorem dX4_placeOf_2 : decode cX4_placeOf 2 = .ok (.iload_n 2, 1) := by decide +kernel
theorem dX4_placeOf_3 : decode cX4_placeOf 3 = .ok (.aload_n 0, 1) := by decide +kernel
theorem dX4_placeOf_4 : decode cX4_placeOf 4 = .ok (.getfield 15, 3) := by decide +kernel
theorem dX4_placeOf_7 : decode cX4_placeOf 7 = .ok (.if_icmp .ge 30, 3) := by decide +kernel
theorem dX4_placeOf_10 : decode cX4_placeOf 10 = .ok (.iload_n 2, 1) := by decide +kernel
theorem dX4_placeOf_11 : decode cX4_placeOf 11 = .ok (.aload_n 0, 1) := by decide +kernel
theorem dX4_placeOf_12 : decode cX4_placeOf 12 = .ok (.getfield 9, 3) := by decide +kernel
theorem dX4_placeOf_15 : decode cX4_placeOf 15 = .ok (.arraylength, 1) := by decide +kernel
theorem dX4_placeOf_16 : decode cX4_placeOf 16 = .ok (.if_icmp .ge 21, 3) := by decide +kernel
theorem dX4_placeOf_19 : decode cX4_placeOf 19 = .ok (.aload_n 0, 1) := by decide +kernel
theorem dX4_placeOf_20 : decode cX4_placeOf 20 = .ok (.getfield 9, 3) := by decide +kernel
theorem dX4_placeOf_23 : decode cX4_placeOf 23 = .ok (.iload_n 2, 1) := by decide +kernel
theorem dX4_placeOf_24 : decode cX4_placeOf 24 = .ok (.iaload, 1) := by decide +kernel
theorem dX4_placeOf_25 : decode cX4_placeOf 25 = .ok (.iload_n 1, 1) := by decide +kernel
theorem dX4_placeOf_26 : decode cX4_placeOf 26 = .ok (.if_icmp .ne 5, 3) := by decide +kernel
theorem dX4_placeOf_29 : decode cX4_placeOf 29 = .ok (.iload_n 2, 1) := by decide +kernel
theorem dX4_placeOf_30 : decode cX4_placeOf 30 = .ok (.ireturn, 1) := by decide +kernel
theorem dX4_placeOf_31 : decode cX4_placeOf 31 = .ok (.iinc 2 1, 3) := by decide +kernel
theorem dX4_placeOf_34 : decode cX4_placeOf 34 = .ok (.goto (-32), 3) := by decide +kernel
theorem dX4_placeOf_37 : decode cX4_placeOf 37 = .ok (.iconst (-1), 1) := by decide +kernel
theorem dX4_placeOf_38 : decode cX4_placeOf 38 = .ok (.ireturn, 1) := by decide +kernel
theorem dX4_firstPlaceWithCard_0 : decode cX4_firstPlaceWithCard 0 = .ok (.iconst 0, 1) := by decide +kernel
theorem dX4_firstPlaceWithCard_1 : decode cX4_firstPlaceWithCard 1 = .ok (.istore_n 1, 1) := by decide +kernel
theorem dX4_firstPlaceWithCard_2 : decode cX4_firstPlaceWithCard 2 = .ok (.iload_n 1, 1) := by decide +kernel
theorem dX4_firstPlaceWithCard_3 : decode cX4_firstPlaceWithCard 3 = .ok (.aload_n 0, 1) := by decide +kernel
theorem dX4_firstPlaceWithCard_4 : decode cX4_firstPlaceWithCard 4 = .ok (.getfield 15, 3) := by decide +kernel
theorem dX4_firstPlaceWithCard_7 : decode cX4_firstPlaceWithCard 7 = .ok (.if_icmp .ge 30, 3) := by decide +kernel
theorem dX4_firstPlaceWithCard_10 : decode cX4_firstPlaceWithCard 10 = .ok (.iload_n 1, 1) := by decide +kernel
theorem dX4_firstPlaceWithCard_11 : decode cX4_firstPlaceWithCard 11 = .ok (.aload_n 0, 1) := by decide +kernel
theorem dX4_firstPlaceWithCard_12 : decode cX4_firstPlaceWithCard 12 = .ok (.getfield 9, 3) := by decide +kernel
theorem dX4_firstPlaceWithCard_15 : decode cX4_firstPlaceWithCard 15 = .ok (.arraylength, 1) := by decide +kernel
theorem dX4_firstPlaceWithCard_16 : decode cX4_firstPlaceWithCard 16 = .ok (.if_icmp .ge 21, 3) := by decide +kernel
theorem dX4_firstPlaceWithCard_19 : decode cX4_firstPlaceWithCard 19 = .ok (.aload_n 0, 1) := by decide +kernel
theorem dX4_firstPlaceWithCard_20 : decode cX4_firstPlaceWithCard 20 = .ok (.getfield 9, 3) := by decide +kernel
theorem dX4_firstPlaceWithCard_23 : decode cX4_firstPlaceWithCard 23 = .ok (.iload_n 1, 1) := by decide +kernel
theorem dX4_firstPlaceWithCard_24 : decode cX4_firstPlaceWithCard 24 = .ok (.iaload, 1) := by decide +kernel
theorem dX4_firstPlaceWithCard_25 : decode cX4_firstPlaceWithCard 25 = .ok (.iconst (-1), 1) := by decide +kernel
theorem dX4_firstPlaceWithCard_26 : decode cX4_firstPlaceWithCard 26 = .ok (.if_icmp .eq 5, 3) := by decide +kernel
theorem dX4_firstPlaceWithCard_29 : decode cX4_firstPlaceWithCard 29 = .ok (.iload_n 1, 1) := by decide +kernel
theorem dX4_firstPlaceWithCard_30 : decode cX4_firstPlaceWithCard 30 = .ok (.ireturn, 1) := by decide +kernel
theorem dX4_firstPlaceWithCard_31 : decode cX4_firstPlaceWithCard 31 = .ok (.iinc 1 1, 3) := by decide +kernel
theorem dX4_firstPlaceWithCard_34 : decode cX4_firstPlaceWithCard 34 = .ok (.goto (-32), 3) := by decide +kernel
theorem dX4_firstPlaceWithCard_37 : decode cX4_firstPlaceWithCard 37 = .ok (.iconst (-1), 1) := by decide +kernel
theorem dX4_firstPlaceWithCard_38 : decode cX4_firstPlaceWithCard 38 = .ok (.ireturn, 1) := by decide +kernel
theorem dX4_isFirstWithoutCard_0 : decode cX4_isFirstWithoutCard 0 = .ok (.aload_n 0, 1) := by decide +kernel
theorem dX4_isFirstWithoutCard_1 : decode cX4_isFirstWithoutCard 1 = .ok (.getfield 15, 3) := by decide +kernel
theorem dX4_isFirstWithoutCard_4 : decode cX4_isFirstWithoutCard 4 = .ok (.ifCond .le 17, 3) := by decide +kernel
theorem dX4_isFirstWithoutCard_7 : decode cX4_isFirstWithoutCard 7 = .ok (.aload_n 0, 1) := by decide +kernel
theorem dX4_isFirstWithoutCard_8 : decode cX4_isFirstWithoutCard 8 = .ok (.getfield 9, 3) := by decide +kernel
theorem dX4_isFirstWithoutCard_11 : decode cX4_isFirstWithoutCard 11 = .ok (.iconst 0, 1) := by decide +kernel
theorem dX4_isFirstWithoutCard_12 : decode cX4_isFirstWithoutCard 12 = .ok (.iaload, 1) := by decide +kernel
theorem dX4_isFirstWithoutCard_13 : decode cX4_isFirstWithoutCard 13 = .ok (.iconst (-1), 1) := by decide +kernel
theorem dX4_isFirstWithoutCard_14 : decode cX4_isFirstWithoutCard 14 = .ok (.if_icmp .ne 7, 3) := by decide +kernel
theorem dX4_isFirstWithoutCard_17 : decode cX4_isFirstWithoutCard 17 = .ok (.iconst 1, 1) := by decide +kernel
theorem dX4_isFirstWithoutCard_18 : decode cX4_isFirstWithoutCard 18 = .ok (.goto 4, 3) := by decide +kernel
theorem dX4_isFirstWithoutCard_21 : decode cX4_isFirstWithoutCard 21 = .ok (.iconst 0, 1) := by decide +kernel
theorem dX4_isFirstWithoutCard_22 : decode cX4_isFirstWithoutCard 22 = .ok (.ireturn, 1) := by decide +kernel
theorem dX4_addLast_0 : decode cX4_addLast 0 = .ok (.aload_n 0, 1) := by decide +kernel
theorem dX4_addLast_1 : decode cX4_addLast 1 = .ok (.getfield 15, 3) := by decide +kernel
theorem dX4_addLast_4 : decode cX4_addLast 4 = .ok (.ifCond .lt 35, 3) := by decide +kernel
theorem dX4_addLast_7 : decode cX4_addLast 7 = .ok (.aload_n 0, 1) := by decide +kernel
theorem dX4_addLast_8 : decode cX4_addLast 8 = .ok (.getfield 15, 3) := by decide +kernel
theorem dX4_addLast_11 : decode cX4_addLast 11 = .ok (.aload_n 0, 1) := by decide +kernel
theorem dX4_addLast_12 : decode cX4_addLast 12 = .ok (.getfield 9, 3) := by decide +kernel
theorem dX4_addLast_15 : decode cX4_addLast 15 = .ok (.arraylength, 1) := by decide +kernel
theorem dX4_addLast_16 : decode cX4_addLast 16 = .ok (.if_icmp .ge 23, 3) := by decide +kernel
theorem dX4_addLast_19 : decode cX4_addLast 19 = .ok (.aload_n 0, 1) := by decide +kernel
theorem dX4_addLast_20 : decode cX4_addLast 20 = .ok (.getfield 9, 3) := by decide +kernel
theorem dX4_addLast_23 : decode cX4_addLast 23 = .ok (.aload_n 0, 1) := by decide +kernel
theorem dX4_addLast_24 : decode cX4_addLast 24 = .ok (.getfield 15, 3) := by decide +kernel
theorem dX4_addLast_27 : decode cX4_addLast 27 = .ok (.iload_n 1, 1) := by decide +kernel
theorem dX4_addLast_28 : decode cX4_addLast 28 = .ok (.iastore, 1) := by decide +kernel
theorem dX4_addLast_29 : decode cX4_addLast 29 = .ok (.aload_n 0, 1) := by decide +kernel
theorem dX4_addLast_30 : decode cX4_addLast 30 = .ok (.dup, 1) := by decide +kernel
theorem dX4_addLast_31 : decode cX4_addLast 31 = .ok (.getfield 15, 3) := by decide +kernel
theorem dX4_addLast_34 : decode cX4_addLast 34 = .ok (.iconst 1, 1) := by decide +kernel
theorem dX4_addLast_35 : decode cX4_addLast 35 = .ok (.iadd, 1) := by decide +kernel
theorem dX4_addLast_36 : decode cX4_addLast 36 = .ok (.putfield 15, 3) := by decide +kernel
theorem dX4_addLast_39 : decode cX4_addLast 39 = .ok (.return_, 1) := by decide +kernel
theorem dX4_removeAt_0 : decode cX4_removeAt 0 = .ok (.iload_n 1, 1) := by decide +kernel
theorem dX4_removeAt_1 : decode cX4_removeAt 1 = .ok (.ifCond .lt 20, 3) := by decide +kernel
theorem dX4_removeAt_4 : decode cX4_removeAt 4 = .ok (.iload_n 1, 1) := by decide +kernel
theorem dX4_removeAt_5 : decode cX4_removeAt 5 = .ok (.aload_n 0, 1) := by decide +kernel
theorem dX4_removeAt_6 : decode cX4_removeAt 6 = .ok (.getfield 15, 3) := by decide +kernel
theorem dX4_removeAt_9 : decode cX4_removeAt 9 = .ok (.if_icmp .ge 12, 3) := by decide +kernel
theorem dX4_removeAt_12 : decode cX4_removeAt 12 = .ok (.iload_n 1, 1) := by decide +kernel
theorem dX4_removeAt_13 : decode cX4_removeAt 13 = .ok (.aload_n 0, 1) := by decide +kernel
theorem dX4_removeAt_14 : decode cX4_removeAt 14 = .ok (.getfield 9, 3) := by decide +kernel
theorem dX4_removeAt_17 : decode cX4_removeAt 17 = .ok (.arraylength, 1) := by decide +kernel
theorem dX4_removeAt_18 : decode cX4_removeAt 18 = .ok (.if_icmp .lt 5, 3) := by decide +kernel
theorem dX4_removeAt_21 : decode cX4_removeAt 21 = .ok (.iconst (-1), 1) := by decide +kernel
theorem dX4_removeAt_22 : decode cX4_removeAt 22 = .ok (.ireturn, 1) := by decide +kernel
theorem dX4_removeAt_23 : decode cX4_removeAt 23 = .ok (.aload_n 0, 1) := by decide +kernel
theorem dX4_removeAt_24 : decode cX4_removeAt 24 = .ok (.getfield 9, 3) := by decide +kernel
theorem dX4_removeAt_27 : decode cX4_removeAt 27 = .ok (.iload_n 1, 1) := by decide +kernel
theorem dX4_removeAt_28 : decode cX4_removeAt 28 = .ok (.iaload, 1) := by decide +kernel
theorem dX4_removeAt_29 : decode cX4_removeAt 29 = .ok (.istore_n 2, 1) := by decide +kernel
theorem dX4_removeAt_30 : decode cX4_removeAt 30 = .ok (.iload_n 1, 1) := by decide +kernel
theorem dX4_removeAt_31 : decode cX4_removeAt 31 = .ok (.istore_n 3, 1) := by decide +kernel
theorem dX4_removeAt_32 : decode cX4_removeAt 32 = .ok (.iload_n 3, 1) := by decide +kernel
theorem dX4_removeAt_33 : decode cX4_removeAt 33 = .ok (.iconst 1, 1) := by decide +kernel
theorem dX4_removeAt_34 : decode cX4_removeAt 34 = .ok (.iadd, 1) := by decide +kernel
theorem dX4_removeAt_35 : decode cX4_removeAt 35 = .ok (.aload_n 0, 1) := by decide +kernel
theorem dX4_removeAt_36 : decode cX4_removeAt 36 = .ok (.getfield 15, 3) := by decide +kernel
theorem dX4_removeAt_39 : decode cX4_removeAt 39 = .ok (.if_icmp .ge 34, 3) := by decide +kernel
theorem dX4_removeAt_42 : decode cX4_removeAt 42 = .ok (.iload_n 3, 1) := by decide +kernel
theorem dX4_removeAt_43 : decode cX4_removeAt 43 = .ok (.iconst 1, 1) := by decide +kernel
theorem dX4_removeAt_44 : decode cX4_removeAt 44 = .ok (.iadd, 1) := by decide +kernel
theorem dX4_removeAt_45 : decode cX4_removeAt 45 = .ok (.aload_n 0, 1) := by decide +kernel
theorem dX4_removeAt_46 : decode cX4_removeAt 46 = .ok (.getfield 9, 3) := by decide +kernel
theorem dX4_removeAt_49 : decode cX4_removeAt 49 = .ok (.arraylength, 1) := by decide +kernel
theorem dX4_removeAt_50 : decode cX4_removeAt 50 = .ok (.if_icmp .ge 23, 3) := by decide +kernel
theorem dX4_removeAt_53 : decode cX4_removeAt 53 = .ok (.aload_n 0, 1) := by decide +kernel
theorem dX4_removeAt_54 : decode cX4_removeAt 54 = .ok (.getfield 9, 3) := by decide +kernel
theorem dX4_removeAt_57 : decode cX4_removeAt 57 = .ok (.iload_n 3, 1) := by decide +kernel
theorem dX4_removeAt_58 : decode cX4_removeAt 58 = .ok (.aload_n 0, 1) := by decide +kernel
theorem dX4_removeAt_59 : decode cX4_removeAt 59 = .ok (.getfield 9, 3) := by decide +kernel
theorem dX4_removeAt_62 : decode cX4_removeAt 62 = .ok (.iload_n 3, 1) := by decide +kernel
theorem dX4_removeAt_63 : decode cX4_removeAt 63 = .ok (.iconst 1, 1) := by decide +kernel
theorem dX4_removeAt_64 : decode cX4_removeAt 64 = .ok (.iadd, 1) := by decide +kernel
theorem dX4_removeAt_65 : decode cX4_removeAt 65 = .ok (.iaload, 1) := by decide +kernel
theorem dX4_removeAt_66 : decode cX4_removeAt 66 = .ok (.iastore, 1) := by decide +kernel
theorem dX4_removeAt_67 : decode cX4_removeAt 67 = .ok (.iinc 3 1, 3) := by decide +kernel
theorem dX4_removeAt_70 : decode cX4_removeAt 70 = .ok (.goto (-38), 3) := by decide +kernel
theorem dX4_removeAt_73 : decode cX4_removeAt 73 = .ok (.aload_n 0, 1) := by decide +kernel
theorem dX4_removeAt_74 : decode cX4_removeAt 74 = .ok (.dup, 1) := by decide +kernel
theorem dX4_removeAt_75 : decode cX4_removeAt 75 = .ok (.getfield 15, 3) := by decide +kernel
theorem dX4_removeAt_78 : decode cX4_removeAt 78 = .ok (.iconst 1, 1) := by decide +kernel
theorem dX4_removeAt_79 : decode cX4_removeAt 79 = .ok (.isub, 1) := by decide +kernel
theorem dX4_removeAt_80 : decode cX4_removeAt 80 = .ok (.putfield 15, 3) := by decide +kernel
theorem dX4_removeAt_83 : decode cX4_removeAt 83 = .ok (.iload_n 2, 1) := by decide +kernel
theorem dX4_removeAt_84 : decode cX4_removeAt 84 = .ok (.ireturn, 1) := by decide +kernel
theorem dX4_bringToFront_0 : decode cX4_bringToFront 0 = .ok (.iload_n 1, 1) := by decide +kernel
theorem dX4_bringToFront_1 : decode cX4_bringToFront 1 = .ok (.ifCond .lt 20, 3) := by decide +kernel
theorem dX4_bringToFront_4 : decode cX4_bringToFront 4 = .ok (.iload_n 1, 1) := by decide +kernel
theorem dX4_bringToFront_5 : decode cX4_bringToFront 5 = .ok (.aload_n 0, 1) := by decide +kernel
theorem dX4_bringToFront_6 : decode cX4_bringToFront 6 = .ok (.getfield 15, 3) := by decide +kernel
theorem dX4_bringToFront_9 : decode cX4_bringToFront 9 = .ok (.if_icmp .ge 12, 3) := by decide +kernel
theorem dX4_bringToFront_12 : decode cX4_bringToFront 12 = .ok (.iload_n 1, 1) := by decide +kernel
theorem dX4_bringToFront_13 : decode cX4_bringToFront 13 = .ok (.aload_n 0, 1) := by decide +kernel
theorem dX4_bringToFront_14 : decode cX4_bringToFront 14 = .ok (.getfield 9, 3) := by decide +kernel
theorem dX4_bringToFront_17 : decode cX4_bringToFront 17 = .ok (.arraylength, 1) := by decide +kernel
theorem dX4_bringToFront_18 : decode cX4_bringToFront 18 = .ok (.if_icmp .lt 4, 3) := by decide +kernel
theorem dX4_bringToFront_21 : decode cX4_bringToFront 21 = .ok (.return_, 1) := by decide +kernel
theorem dX4_bringToFront_22 : decode cX4_bringToFront 22 = .ok (.aload_n 0, 1) := by decide +kernel
theorem dX4_bringToFront_23 : decode cX4_bringToFront 23 = .ok (.getfield 9, 3) := by decide +kernel
theorem dX4_bringToFront_26 : decode cX4_bringToFront 26 = .ok (.iload_n 1, 1) := by decide +kernel
theorem dX4_bringToFront_27 : decode cX4_bringToFront 27 = .ok (.iaload, 1) := by decide +kernel
theorem dX4_bringToFront_28 : decode cX4_bringToFront 28 = .ok (.istore_n 2, 1) := by decide +kernel
theorem dX4_bringToFront_29 : decode cX4_bringToFront 29 = .ok (.iload_n 1, 1) := by decide +kernel
theorem dX4_bringToFront_30 : decode cX4_bringToFront 30 = .ok (.istore_n 3, 1) := by decide +kernel
theorem dX4_bringToFront_31 : decode cX4_bringToFront 31 = .ok (.iload_n 3, 1) := by decide +kernel
theorem dX4_bringToFront_32 : decode cX4_bringToFront 32 = .ok (.ifCond .le 23, 3) := by decide +kernel
theorem dX4_bringToFront_35 : decode cX4_bringToFront 35 = .ok (.aload_n 0, 1) := by decide +kernel
theorem dX4_bringToFront_36 : decode cX4_bringToFront 36 = .ok (.getfield 9, 3) := by decide +kernel
theorem dX4_bringToFront_39 : decode cX4_bringToFront 39 = .ok (.iload_n 3, 1) := by decide +kernel
theorem dX4_bringToFront_40 : decode cX4_bringToFront 40 = .ok (.aload_n 0, 1) := by decide +kernel
theorem dX4_bringToFront_41 : decode cX4_bringToFront 41 = .ok (.getfield 9, 3) := by decide +kernel
theorem dX4_bringToFront_44 : decode cX4_bringToFront 44 = .ok (.iload_n 3, 1) := by decide +kernel
theorem dX4_bringToFront_45 : decode cX4_bringToFront 45 = .ok (.iconst 1, 1) := by decide +kernel
theorem dX4_bringToFront_46 : decode cX4_bringToFront 46 = .ok (.isub, 1) := by decide +kernel
theorem dX4_bringToFront_47 : decode cX4_bringToFront 47 = .ok (.iaload, 1) := by decide +kernel
theorem dX4_bringToFront_48 : decode cX4_bringToFront 48 = .ok (.iastore, 1) := by decide +kernel
theorem dX4_bringToFront_49 : decode cX4_bringToFront 49 = .ok (.iinc 3 (-1), 3) := by decide +kernel
theorem dX4_bringToFront_52 : decode cX4_bringToFront 52 = .ok (.goto (-21), 3) := by decide +kernel
theorem dX4_bringToFront_55 : decode cX4_bringToFront 55 = .ok (.aload_n 0, 1) := by decide +kernel
theorem dX4_bringToFront_56 : decode cX4_bringToFront 56 = .ok (.getfield 9, 3) := by decide +kernel
theorem dX4_bringToFront_59 : decode cX4_bringToFront 59 = .ok (.iconst 0, 1) := by decide +kernel
theorem dX4_bringToFront_60 : decode cX4_bringToFront 60 = .ok (.iload_n 2, 1) := by decide +kernel
theorem dX4_bringToFront_61 : decode cX4_bringToFront 61 = .ok (.iastore, 1) := by decide +kernel
theorem dX4_bringToFront_62 : decode cX4_bringToFront 62 = .ok (.return_, 1) := by decide +kernel
theorem dX5_init_0 : decode cX5_init 0 = .ok (.aload_n 0, 1) := by decide +kernel
theorem dX5_init_1 : decode cX5_init 1 = .ok (.invokespecial 3, 3) := by decide +kernel
theorem dX5_init_4 : decode cX5_init 4 = .ok (.aload_n 0, 1) := by decide +kernel
theorem dX5_init_5 : decode cX5_init 5 = .ok (.bipush 6, 2) := by decide +kernel
theorem dX5_init_7 : decode cX5_init 7 = .ok (.anewarray 9, 3) := by decide +kernel
theorem dX5_init_10 : decode cX5_init 10 = .ok (.putfield 11, 3) := by decide +kernel
theorem dX5_init_13 : decode cX5_init 13 = .ok (.aload_n 0, 1) := by decide +kernel
theorem dX5_init_14 : decode cX5_init 14 = .ok (.bipush 12, 2) := by decide +kernel
theorem dX5_init_16 : decode cX5_init 16 = .ok (.anewarray 17, 3) := by decide +kernel
theorem dX5_init_19 : decode cX5_init 19 = .ok (.putfield 19, 3) := by decide +kernel
theorem dX5_init_22 : decode cX5_init 22 = .ok (.aload_n 0, 1) := by decide +kernel
theorem dX5_init_23 : decode cX5_init 23 = .ok (.iconst 3, 1) := by decide +kernel
theorem dX5_init_24 : decode cX5_init 24 = .ok (.putfield 23, 3) := by decide +kernel
theorem dX5_init_27 : decode cX5_init 27 = .ok (.aload_n 0, 1) := by decide +kernel
theorem dX5_init_28 : decode cX5_init 28 = .ok (.iconst 2, 1) := by decide +kernel
theorem dX5_init_29 : decode cX5_init 29 = .ok (.putfield 27, 3) := by decide +kernel
theorem dX5_init_32 : decode cX5_init 32 = .ok (.iconst 0, 1) := by decide +kernel
theorem dX5_init_33 : decode cX5_init 33 = .ok (.istore_n 1, 1) := by decide +kernel
theorem dX5_init_34 : decode cX5_init 34 = .ok (.iload_n 1, 1) := by decide +kernel
theorem dX5_init_35 : decode cX5_init 35 = .ok (.aload_n 0, 1) := by decide +kernel
theorem dX5_init_36 : decode cX5_init 36 = .ok (.getfield 11, 3) := by decide +kernel
theorem dX5_init_39 : decode cX5_init 39 = .ok (.arraylength, 1) := by decide +kernel
theorem dX5_init_40 : decode cX5_init 40 = .ok (.if_icmp .ge 22, 3) := by decide +kernel
theorem dX5_init_43 : decode cX5_init 43 = .ok (.aload_n 0, 1) := by decide +kernel
theorem dX5_init_44 : decode cX5_init 44 = .ok (.getfield 11, 3) := by decide +kernel
theorem dX5_init_47 : decode cX5_init 47 = .ok (.iload_n 1, 1) := by decide +kernel
theorem dX5_init_48 : decode cX5_init 48 = .ok (.new 9, 3) := by decide +kernel
theorem dX5_init_51 : decode cX5_init 51 = .ok (.dup, 1) := by decide +kernel
theorem dX5_init_52 : decode cX5_init 52 = .ok (.invokespecial 30, 3) := by decide +kernel
theorem dX5_init_55 : decode cX5_init 55 = .ok (.aastore, 1) := by decide +kernel
theorem dX5_init_56 : decode cX5_init 56 = .ok (.iinc 1 1, 3) := by decide +kernel
theorem dX5_init_59 : decode cX5_init 59 = .ok (.goto (-25), 3) := by decide +kernel
theorem dX5_init_62 : decode cX5_init 62 = .ok (.iconst 0, 1) := by decide +kernel
theorem dX5_init_63 : decode cX5_init 63 = .ok (.istore_n 1, 1) := by decide +kernel
theorem dX5_init_64 : decode cX5_init 64 = .ok (.iload_n 1, 1) := by decide +kernel
theorem dX5_init_65 : decode cX5_init 65 = .ok (.aload_n 0, 1) := by decide +kernel
theorem dX5_init_66 : decode cX5_init 66 = .ok (.getfield 19, 3) := by decide +kernel
theorem dX5_init_69 : decode cX5_init 69 = .ok (.arraylength, 1) := by decide +kernel
theorem dX5_init_70 : decode cX5_init 70 = .ok (.if_icmp .ge 22, 3) := by decide +kernel
theorem dX5_init_73 : decode cX5_init 73 = .ok (.aload_n 0, 1) := by decide +kernel
theorem dX5_init_74 : decode cX5_init 74 = .ok (.getfield 19, 3) := by decide +kernel
theorem dX5_init_77 : decode cX5_init 77 = .ok (.iload_n 1, 1) := by decide +kernel
theorem dX5_init_78 : decode cX5_init 78 = .ok (.new 17, 3) := by decide +kernel
theorem dX5_init_81 : decode cX5_init 81 = .ok (.dup, 1) := by decide +kernel
theorem dX5_init_82 : decode cX5_init 82 = .ok (.invokespecial 31, 3) := by decide +kernel
theorem dX5_init_85 : decode cX5_init 85 = .ok (.aastore, 1) := by decide +kernel
theorem dX5_init_86 : decode cX5_init 86 = .ok (.iinc 1 1, 3) := by decide +kernel
theorem dX5_init_89 : decode cX5_init 89 = .ok (.goto (-25), 3) := by decide +kernel
theorem dX5_init_92 : decode cX5_init 92 = .ok (.return_, 1) := by decide +kernel
theorem dX5_copyFrom_0 : decode cX5_copyFrom 0 = .ok (.iconst 0, 1) := by decide +kernel
theorem dX5_copyFrom_1 : decode cX5_copyFrom 1 = .ok (.istore_n 2, 1) := by decide +kernel
theorem dX5_copyFrom_2 : decode cX5_copyFrom 2 = .ok (.iload_n 2, 1) := by decide +kernel
theorem dX5_copyFrom_3 : decode cX5_copyFrom 3 = .ok (.aload_n 0, 1) := by decide +kernel
theorem dX5_copyFrom_4 : decode cX5_copyFrom 4 = .ok (.getfield 11, 3) := by decide +kernel
theorem dX5_copyFrom_7 : decode cX5_copyFrom 7 = .ok (.arraylength, 1) := by decide +kernel
theorem dX5_copyFrom_8 : decode cX5_copyFrom 8 = .ok (.if_icmp .ge 33, 3) := by decide +kernel
theorem dX5_copyFrom_11 : decode cX5_copyFrom 11 = .ok (.iload_n 2, 1) := by decide +kernel
theorem dX5_copyFrom_12 : decode cX5_copyFrom 12 = .ok (.aload_n 1, 1) := by decide +kernel
theorem dX5_copyFrom_13 : decode cX5_copyFrom 13 = .ok (.getfield 11, 3) := by decide +kernel
theorem dX5_copyFrom_16 : decode cX5_copyFrom 16 = .ok (.arraylength, 1) := by decide +kernel
theorem dX5_copyFrom_17 : decode cX5_copyFrom 17 = .ok (.if_icmp .ge 24, 3) := by decide +kernel
theorem dX5_copyFrom_20 : decode cX5_copyFrom 20 = .ok (.aload_n 0, 1) := by decide +kernel
theorem dX5_copyFrom_21 : decode cX5_copyFrom 21 = .ok (.getfield 11, 3) := by decide +kernel
theorem dX5_copyFrom_24 : decode cX5_copyFrom 24 = .ok (.iload_n 2, 1) := by decide +kernel
theorem dX5_copyFrom_25 : decode cX5_copyFrom 25 = .ok (.aaload, 1) := by decide +kernel
theorem dX5_copyFrom_26 : decode cX5_copyFrom 26 = .ok (.aload_n 1, 1) := by decide +kernel
theorem dX5_copyFrom_27 : decode cX5_copyFrom 27 = .ok (.getfield 11, 3) := by decide +kernel
theorem dX5_copyFrom_30 : decode cX5_copyFrom 30 = .ok (.iload_n 2, 1) := by decide +kernel
theorem dX5_copyFrom_31 : decode cX5_copyFrom 31 = .ok (.aaload, 1) := by decide +kernel
theorem dX5_copyFrom_32 : decode cX5_copyFrom 32 = .ok (.invokevirtual 32, 3) := by decide +kernel
theorem dX5_copyFrom_35 : decode cX5_copyFrom 35 = .ok (.iinc 2 1, 3) := by decide +kernel
theorem dX5_copyFrom_38 : decode cX5_copyFrom 38 = .ok (.goto (-36), 3) := by decide +kernel
theorem dX5_copyFrom_41 : decode cX5_copyFrom 41 = .ok (.iconst 0, 1) := by decide +kernel
theorem dX5_copyFrom_42 : decode cX5_copyFrom 42 = .ok (.istore_n 2, 1) := by decide +kernel
theorem dX5_copyFrom_43 : decode cX5_copyFrom 43 = .ok (.iload_n 2, 1) := by decide +kernel
theorem dX5_copyFrom_44 : decode cX5_copyFrom 44 = .ok (.aload_n 0, 1) := by decide +kernel
theorem dX5_copyFrom_45 : decode cX5_copyFrom 45 = .ok (.getfield 19, 3) := by decide +kernel
theorem dX5_copyFrom_48 : decode cX5_copyFrom 48 = .ok (.arraylength, 1) := by decide +kernel
theorem dX5_copyFrom_49 : decode cX5_copyFrom 49 = .ok (.if_icmp .ge 33, 3) := by decide +kernel
theorem dX5_copyFrom_52 : decode cX5_copyFrom 52 = .ok (.iload_n 2, 1) := by decide +kernel
theorem dX5_copyFrom_53 : decode cX5_copyFrom 53 = .ok (.aload_n 1, 1) := by decide +kernel
theorem dX5_copyFrom_54 : decode cX5_copyFrom 54 = .ok (.getfield 19, 3) := by decide +kernel
theorem dX5_copyFrom_57 : decode cX5_copyFrom 57 = .ok (.arraylength, 1) := by decide +kernel
theorem dX5_copyFrom_58 : decode cX5_copyFrom 58 = .ok (.if_icmp .ge 24, 3) := by decide +kernel
theorem dX5_copyFrom_61 : decode cX5_copyFrom 61 = .ok (.aload_n 0, 1) := by decide +kernel
theorem dX5_copyFrom_62 : decode cX5_copyFrom 62 = .ok (.getfield 19, 3) := by decide +kernel
theorem dX5_copyFrom_65 : decode cX5_copyFrom 65 = .ok (.iload_n 2, 1) := by decide +kernel
theorem dX5_copyFrom_66 : decode cX5_copyFrom 66 = .ok (.aaload, 1) := by decide +kernel
theorem dX5_copyFrom_67 : decode cX5_copyFrom 67 = .ok (.aload_n 1, 1) := by decide +kernel
theorem dX5_copyFrom_68 : decode cX5_copyFrom 68 = .ok (.getfield 19, 3) := by decide +kernel
theorem dX5_copyFrom_71 : decode cX5_copyFrom 71 = .ok (.iload_n 2, 1) := by decide +kernel
theorem dX5_copyFrom_72 : decode cX5_copyFrom 72 = .ok (.aaload, 1) := by decide +kernel
theorem dX5_copyFrom_73 : decode cX5_copyFrom 73 = .ok (.invokevirtual 36, 3) := by decide +kernel
theorem dX5_copyFrom_76 : decode cX5_copyFrom 76 = .ok (.iinc 2 1, 3) := by decide +kernel
theorem dX5_copyFrom_79 : decode cX5_copyFrom 79 = .ok (.goto (-36), 3) := by decide +kernel
theorem dX5_copyFrom_82 : decode cX5_copyFrom 82 = .ok (.aload_n 0, 1) := by decide +kernel
theorem dX5_copyFrom_83 : decode cX5_copyFrom 83 = .ok (.aload_n 1, 1) := by decide +kernel
theorem dX5_copyFrom_84 : decode cX5_copyFrom 84 = .ok (.getfield 39, 3) := by decide +kernel
theorem dX5_copyFrom_87 : decode cX5_copyFrom 87 = .ok (.putfield 39, 3) := by decide +kernel
theorem dX5_copyFrom_90 : decode cX5_copyFrom 90 = .ok (.aload_n 0, 1) := by decide +kernel
theorem dX5_copyFrom_91 : decode cX5_copyFrom 91 = .ok (.aload_n 1, 1) := by decide +kernel
theorem dX5_copyFrom_92 : decode cX5_copyFrom 92 = .ok (.getfield 42, 3) := by decide +kernel
theorem dX5_copyFrom_95 : decode cX5_copyFrom 95 = .ok (.putfield 42, 3) := by decide +kernel
theorem dX5_copyFrom_98 : decode cX5_copyFrom 98 = .ok (.aload_n 0, 1) := by decide +kernel
theorem dX5_copyFrom_99 : decode cX5_copyFrom 99 = .ok (.aload_n 1, 1) := by decide +kernel
theorem dX5_copyFrom_100 : decode cX5_copyFrom 100 = .ok (.getfield 23, 3) := by decide +kernel
theorem dX5_copyFrom_103 : decode cX5_copyFrom 103 = .ok (.putfield 23, 3) := by decide +kernel
theorem dX5_copyFrom_106 : decode cX5_copyFrom 106 = .ok (.aload_n 0, 1) := by decide +kernel
theorem dX5_copyFrom_107 : decode cX5_copyFrom 107 = .ok (.aload_n 1, 1) := by decide +kernel
theorem dX5_copyFrom_108 : decode cX5_copyFrom 108 = .ok (.getfield 27, 3) := by decide +kernel
theorem dX5_copyFrom_111 : decode cX5_copyFrom 111 = .ok (.putfield 27, 3) := by decide +kernel
theorem dX5_copyFrom_114 : decode cX5_copyFrom 114 = .ok (.aload_n 0, 1) := by decide +kernel
theorem dX5_copyFrom_115 : decode cX5_copyFrom 115 = .ok (.aload_n 1, 1) := by decide +kernel
theorem dX5_copyFrom_116 : decode cX5_copyFrom 116 = .ok (.getfield 45, 3) := by decide +kernel
theorem dX5_copyFrom_119 : decode cX5_copyFrom 119 = .ok (.putfield 45, 3) := by decide +kernel
theorem dX5_copyFrom_122 : decode cX5_copyFrom 122 = .ok (.aload_n 0, 1) := by decide +kernel
theorem dX5_copyFrom_123 : decode cX5_copyFrom 123 = .ok (.aload_n 1, 1) := by decide +kernel
theorem dX5_copyFrom_124 : decode cX5_copyFrom 124 = .ok (.getfield 48, 3) := by decide +kernel
theorem dX5_copyFrom_127 : decode cX5_copyFrom 127 = .ok (.putfield 48, 3) := by decide +kernel
theorem dX5_copyFrom_130 : decode cX5_copyFrom 130 = .ok (.aload_n 0, 1) := by decide +kernel
theorem dX5_copyFrom_131 : decode cX5_copyFrom 131 = .ok (.aload_n 1, 1) := by decide +kernel
theorem dX5_copyFrom_132 : decode cX5_copyFrom 132 = .ok (.getfield 51, 3) := by decide +kernel
theorem dX5_copyFrom_135 : decode cX5_copyFrom 135 = .ok (.putfield 51, 3) := by decide +kernel
theorem dX5_copyFrom_138 : decode cX5_copyFrom 138 = .ok (.aload_n 0, 1) := by decide +kernel
theorem dX5_copyFrom_139 : decode cX5_copyFrom 139 = .ok (.aload_n 1, 1) := by decide +kernel
theorem dX5_copyFrom_140 : decode cX5_copyFrom 140 = .ok (.getfield 54, 3) := by decide +kernel
theorem dX5_copyFrom_143 : decode cX5_copyFrom 143 = .ok (.putfield 54, 3) := by decide +kernel
theorem dX5_copyFrom_146 : decode cX5_copyFrom 146 = .ok (.aload_n 0, 1) := by decide +kernel
theorem dX5_copyFrom_147 : decode cX5_copyFrom 147 = .ok (.aload_n 1, 1) := by decide +kernel
theorem dX5_copyFrom_148 : decode cX5_copyFrom 148 = .ok (.getfield 57, 3) := by decide +kernel
theorem dX5_copyFrom_151 : decode cX5_copyFrom 151 = .ok (.putfield 57, 3) := by decide +kernel
theorem dX5_copyFrom_154 : decode cX5_copyFrom 154 = .ok (.aload_n 0, 1) := by decide +kernel
theorem dX5_copyFrom_155 : decode cX5_copyFrom 155 = .ok (.aload_n 1, 1) := by decide +kernel
theorem dX5_copyFrom_156 : decode cX5_copyFrom 156 = .ok (.getfield 60, 3) := by decide +kernel
theorem dX5_copyFrom_159 : decode cX5_copyFrom 159 = .ok (.putfield 60, 3) := by decide +kernel
theorem dX5_copyFrom_162 : decode cX5_copyFrom 162 = .ok (.aload_n 0, 1) := by decide +kernel
theorem dX5_copyFrom_163 : decode cX5_copyFrom 163 = .ok (.aload_n 1, 1) := by decide +kernel
theorem dX5_copyFrom_164 : decode cX5_copyFrom 164 = .ok (.getfield 63, 3) := by decide +kernel
theorem dX5_copyFrom_167 : decode cX5_copyFrom 167 = .ok (.putfield 63, 3) := by decide +kernel
theorem dX5_copyFrom_170 : decode cX5_copyFrom 170 = .ok (.aload_n 0, 1) := by decide +kernel
theorem dX5_copyFrom_171 : decode cX5_copyFrom 171 = .ok (.aload_n 1, 1) := by decide +kernel
theorem dX5_copyFrom_172 : decode cX5_copyFrom 172 = .ok (.getfield 66, 3) := by decide +kernel
theorem dX5_copyFrom_175 : decode cX5_copyFrom 175 = .ok (.putfield 66, 3) := by decide +kernel
theorem dX5_copyFrom_178 : decode cX5_copyFrom 178 = .ok (.aload_n 0, 1) := by decide +kernel
theorem dX5_copyFrom_179 : decode cX5_copyFrom 179 = .ok (.aload_n 1, 1) := by decide +kernel
theorem dX5_copyFrom_180 : decode cX5_copyFrom 180 = .ok (.getfield 69, 3) := by decide +kernel
theorem dX5_copyFrom_183 : decode cX5_copyFrom 183 = .ok (.putfield 69, 3) := by decide +kernel
theorem dX5_copyFrom_186 : decode cX5_copyFrom 186 = .ok (.aload_n 0, 1) := by decide +kernel
theorem dX5_copyFrom_187 : decode cX5_copyFrom 187 = .ok (.aload_n 1, 1) := by decide +kernel
theorem dX5_copyFrom_188 : decode cX5_copyFrom 188 = .ok (.getfield 72, 3) := by decide +kernel
theorem dX5_copyFrom_191 : decode cX5_copyFrom 191 = .ok (.putfield 72, 3) := by decide +kernel
theorem dX5_copyFrom_194 : decode cX5_copyFrom 194 = .ok (.return_, 1) := by decide +kernel
theorem dX5_hasGate_0 : decode cX5_hasGate 0 = .ok (.iload_n 1, 1) := by decide +kernel
theorem dX5_hasGate_1 : decode cX5_hasGate 1 = .ok (.ifCond .lt 24, 3) := by decide +kernel
theorem dX5_hasGate_4 : decode cX5_hasGate 4 = .ok (.iload_n 1, 1) := by decide +kernel
theorem dX5_hasGate_5 : decode cX5_hasGate 5 = .ok (.aload_n 0, 1) := by decide +kernel
theorem dX5_hasGate_6 : decode cX5_hasGate 6 = .ok (.getfield 39, 3) := by decide +kernel
theorem dX5_hasGate_9 : decode cX5_hasGate 9 = .ok (.if_icmp .ge 16, 3) := by decide +kernel
theorem dX5_hasGate_12 : decode cX5_hasGate 12 = .ok (.iload_n 1, 1) := by decide +kernel
theorem dX5_hasGate_13 : decode cX5_hasGate 13 = .ok (.aload_n 0, 1) := by decide +kernel
theorem dX5_hasGate_14 : decode cX5_hasGate 14 = .ok (.getfield 11, 3) := by decide +kernel
theorem dX5_hasGate_17 : decode cX5_hasGate 17 = .ok (.arraylength, 1) := by decide +kernel
theorem dX5_hasGate_18 : decode cX5_hasGate 18 = .ok (.if_icmp .ge 7, 3) := by decide +kernel
theorem dX5_hasGate_21 : decode cX5_hasGate 21 = .ok (.iconst 1, 1) := by decide +kernel
theorem dX5_hasGate_22 : decode cX5_hasGate 22 = .ok (.goto 4, 3) := by decide +kernel
theorem dX5_hasGate_25 : decode cX5_hasGate 25 = .ok (.iconst 0, 1) := by decide +kernel
theorem dX5_hasGate_26 : decode cX5_hasGate 26 = .ok (.ireturn, 1) := by decide +kernel
theorem dX5_hasCard_0 : decode cX5_hasCard 0 = .ok (.iload_n 1, 1) := by decide +kernel
theorem dX5_hasCard_1 : decode cX5_hasCard 1 = .ok (.ifCond .lt 24, 3) := by decide +kernel
theorem dX5_hasCard_4 : decode cX5_hasCard 4 = .ok (.iload_n 1, 1) := by decide +kernel
theorem dX5_hasCard_5 : decode cX5_hasCard 5 = .ok (.aload_n 0, 1) := by decide +kernel
theorem dX5_hasCard_6 : decode cX5_hasCard 6 = .ok (.getfield 42, 3) := by decide +kernel
theorem dX5_hasCard_9 : decode cX5_hasCard 9 = .ok (.if_icmp .ge 16, 3) := by decide +kernel
theorem dX5_hasCard_12 : decode cX5_hasCard 12 = .ok (.iload_n 1, 1) := by decide +kernel
theorem dX5_hasCard_13 : decode cX5_hasCard 13 = .ok (.aload_n 0, 1) := by decide +kernel
theorem dX5_hasCard_14 : decode cX5_hasCard 14 = .ok (.getfield 19, 3) := by decide +kernel
theorem dX5_hasCard_17 : decode cX5_hasCard 17 = .ok (.arraylength, 1) := by decide +kernel
theorem dX5_hasCard_18 : decode cX5_hasCard 18 = .ok (.if_icmp .ge 7, 3) := by decide +kernel
theorem dX5_hasCard_21 : decode cX5_hasCard 21 = .ok (.iconst 1, 1) := by decide +kernel
theorem dX5_hasCard_22 : decode cX5_hasCard 22 = .ok (.goto 4, 3) := by decide +kernel
theorem dX5_hasCard_25 : decode cX5_hasCard 25 = .ok (.iconst 0, 1) := by decide +kernel
theorem dX5_hasCard_26 : decode cX5_hasCard 26 = .ok (.ireturn, 1) := by decide +kernel
theorem dX5_canTakeGate_0 : decode cX5_canTakeGate 0 = .ok (.aload_n 0, 1) := by decide +kernel
theorem dX5_canTakeGate_1 : decode cX5_canTakeGate 1 = .ok (.getfield 39, 3) := by decide +kernel
theorem dX5_canTakeGate_4 : decode cX5_canTakeGate 4 = .ok (.ifCond .lt 19, 3) := by decide +kernel
theorem dX5_canTakeGate_7 : decode cX5_canTakeGate 7 = .ok (.aload_n 0, 1) := by decide +kernel
theorem dX5_canTakeGate_8 : decode cX5_canTakeGate 8 = .ok (.getfield 39, 3) := by decide +kernel
theorem dX5_canTakeGate_11 : decode cX5_canTakeGate 11 = .ok (.aload_n 0, 1) := by decide +kernel
theorem dX5_canTakeGate_12 : decode cX5_canTakeGate 12 = .ok (.getfield 11, 3) := by decide +kernel
theorem dX5_canTakeGate_15 : decode cX5_canTakeGate 15 = .ok (.arraylength, 1) := by decide +kernel
theorem dX5_canTakeGate_16 : decode cX5_canTakeGate 16 = .ok (.if_icmp .ge 7, 3) := by decide +kernel
theorem dX5_canTakeGate_19 : decode cX5_canTakeGate 19 = .ok (.iconst 1, 1) := by decide +kernel
theorem dX5_canTakeGate_20 : decode cX5_canTakeGate 20 = .ok (.goto 4, 3) := by decide +kernel
theorem dX5_canTakeGate_23 : decode cX5_canTakeGate 23 = .ok (.iconst 0, 1) := by decide +kernel
theorem dX5_canTakeGate_24 : decode cX5_canTakeGate 24 = .ok (.ireturn, 1) := by decide +kernel
theorem dX5_canTakeCard_0 : decode cX5_canTakeCard 0 = .ok (.aload_n 0, 1) := by decide +kernel
theorem dX5_canTakeCard_1 : decode cX5_canTakeCard 1 = .ok (.getfield 42, 3) := by decide +kernel
theorem dX5_canTakeCard_4 : decode cX5_canTakeCard 4 = .ok (.ifCond .lt 19, 3) := by decide +kernel
theorem dX5_canTakeCard_7 : decode cX5_canTakeCard 7 = .ok (.aload_n 0, 1) := by decide +kernel
theorem dX5_canTakeCard_8 : decode cX5_canTakeCard 8 = .ok (.getfield 42, 3) := by decide +kernel
theorem dX5_canTakeCard_11 : decode cX5_canTakeCard 11 = .ok (.aload_n 0, 1) := by decide +kernel
theorem dX5_canTakeCard_12 : decode cX5_canTakeCard 12 = .ok (.getfield 19, 3) := by decide +kernel
theorem dX5_canTakeCard_15 : decode cX5_canTakeCard 15 = .ok (.arraylength, 1) := by decide +kernel
theorem dX5_canTakeCard_16 : decode cX5_canTakeCard 16 = .ok (.if_icmp .ge 7, 3) := by decide +kernel
theorem dX5_canTakeCard_19 : decode cX5_canTakeCard 19 = .ok (.iconst 1, 1) := by decide +kernel
theorem dX5_canTakeCard_20 : decode cX5_canTakeCard 20 = .ok (.goto 4, 3) := by decide +kernel
theorem dX5_canTakeCard_23 : decode cX5_canTakeCard 23 = .ok (.iconst 0, 1) := by decide +kernel
theorem dX5_canTakeCard_24 : decode cX5_canTakeCard 24 = .ok (.ireturn, 1) := by decide +kernel
theorem dX5_addGate_0 : decode cX5_addGate 0 = .ok (.aload_n 0, 1) := by decide +kernel
theorem dX5_addGate_1 : decode cX5_addGate 1 = .ok (.getfield 39, 3) := by decide +kernel
theorem dX5_addGate_4 : decode cX5_addGate 4 = .ok (.ifCond .lt 38, 3) := by decide +kernel
theorem dX5_addGate_7 : decode cX5_addGate 7 = .ok (.aload_n 0, 1) := by decide +kernel
theorem dX5_addGate_8 : decode cX5_addGate 8 = .ok (.getfield 39, 3) := by decide +kernel
theorem dX5_addGate_11 : decode cX5_addGate 11 = .ok (.aload_n 0, 1) := by decide +kernel
theorem dX5_addGate_12 : decode cX5_addGate 12 = .ok (.getfield 11, 3) := by decide +kernel
theorem dX5_addGate_15 : decode cX5_addGate 15 = .ok (.arraylength, 1) := by decide +kernel
theorem dX5_addGate_16 : decode cX5_addGate 16 = .ok (.if_icmp .ge 26, 3) := by decide +kernel
theorem dX5_addGate_19 : decode cX5_addGate 19 = .ok (.aload_n 0, 1) := by decide +kernel
theorem dX5_addGate_20 : decode cX5_addGate 20 = .ok (.getfield 11, 3) := by decide +kernel
theorem dX5_addGate_23 : decode cX5_addGate 23 = .ok (.aload_n 0, 1) := by decide +kernel
theorem dX5_addGate_24 : decode cX5_addGate 24 = .ok (.getfield 39, 3) := by decide +kernel
theorem dX5_addGate_27 : decode cX5_addGate 27 = .ok (.aaload, 1) := by decide +kernel
theorem dX5_addGate_28 : decode cX5_addGate 28 = .ok (.iload_n 1, 1) := by decide +kernel
theorem dX5_addGate_29 : decode cX5_addGate 29 = .ok (.putfield 75, 3) := by decide +kernel
theorem dX5_addGate_32 : decode cX5_addGate 32 = .ok (.aload_n 0, 1) := by decide +kernel
theorem dX5_addGate_33 : decode cX5_addGate 33 = .ok (.dup, 1) := by decide +kernel
theorem dX5_addGate_34 : decode cX5_addGate 34 = .ok (.getfield 39, 3) := by decide +kernel
theorem dX5_addGate_37 : decode cX5_addGate 37 = .ok (.iconst 1, 1) := by decide +kernel
theorem dX5_addGate_38 : decode cX5_addGate 38 = .ok (.iadd, 1) := by decide +kernel
theorem dX5_addGate_39 : decode cX5_addGate 39 = .ok (.putfield 39, 3) := by decide +kernel
theorem dX5_addGate_42 : decode cX5_addGate 42 = .ok (.return_, 1) := by decide +kernel
theorem dX5_addCard_0 : decode cX5_addCard 0 = .ok (.aload_n 0, 1) := by decide +kernel
theorem dX5_addCard_1 : decode cX5_addCard 1 = .ok (.getfield 42, 3) := by decide +kernel
theorem dX5_addCard_4 : decode cX5_addCard 4 = .ok (.ifCond .lt 51, 3) := by decide +kernel
theorem dX5_addCard_7 : decode cX5_addCard 7 = .ok (.aload_n 0, 1) := by decide +kernel
theorem dX5_addCard_8 : decode cX5_addCard 8 = .ok (.getfield 42, 3) := by decide +kernel
theorem dX5_addCard_11 : decode cX5_addCard 11 = .ok (.aload_n 0, 1) := by decide +kernel
theorem dX5_addCard_12 : decode cX5_addCard 12 = .ok (.getfield 19, 3) := by decide +kernel
theorem dX5_addCard_15 : decode cX5_addCard 15 = .ok (.arraylength, 1) := by decide +kernel
theorem dX5_addCard_16 : decode cX5_addCard 16 = .ok (.if_icmp .ge 39, 3) := by decide +kernel
theorem dX5_addCard_19 : decode cX5_addCard 19 = .ok (.aload_n 0, 1) := by decide +kernel
theorem dX5_addCard_20 : decode cX5_addCard 20 = .ok (.getfield 19, 3) := by decide +kernel
theorem dX5_addCard_23 : decode cX5_addCard 23 = .ok (.aload_n 0, 1) := by decide +kernel
theorem dX5_addCard_24 : decode cX5_addCard 24 = .ok (.getfield 42, 3) := by decide +kernel
theorem dX5_addCard_27 : decode cX5_addCard 27 = .ok (.aaload, 1) := by decide +kernel
theorem dX5_addCard_28 : decode cX5_addCard 28 = .ok (.iload_n 1, 1) := by decide +kernel
theorem dX5_addCard_29 : decode cX5_addCard 29 = .ok (.putfield 78, 3) := by decide +kernel
theorem dX5_addCard_32 : decode cX5_addCard 32 = .ok (.aload_n 0, 1) := by decide +kernel
theorem dX5_addCard_33 : decode cX5_addCard 33 = .ok (.getfield 19, 3) := by decide +kernel
theorem dX5_addCard_36 : decode cX5_addCard 36 = .ok (.aload_n 0, 1) := by decide +kernel
theorem dX5_addCard_37 : decode cX5_addCard 37 = .ok (.getfield 42, 3) := by decide +kernel
theorem dX5_addCard_40 : decode cX5_addCard 40 = .ok (.aaload, 1) := by decide +kernel
theorem dX5_addCard_41 : decode cX5_addCard 41 = .ok (.iload_n 2, 1) := by decide +kernel
theorem dX5_addCard_42 : decode cX5_addCard 42 = .ok (.putfield 81, 3) := by decide +kernel
theorem dX5_addCard_45 : decode cX5_addCard 45 = .ok (.aload_n 0, 1) := by decide +kernel
theorem dX5_addCard_46 : decode cX5_addCard 46 = .ok (.dup, 1) := by decide +kernel
theorem dX5_addCard_47 : decode cX5_addCard 47 = .ok (.getfield 42, 3) := by decide +kernel
theorem dX5_addCard_50 : decode cX5_addCard 50 = .ok (.iconst 1, 1) := by decide +kernel
theorem dX5_addCard_51 : decode cX5_addCard 51 = .ok (.iadd, 1) := by decide +kernel
theorem dX5_addCard_52 : decode cX5_addCard 52 = .ok (.putfield 42, 3) := by decide +kernel
theorem dX5_addCard_55 : decode cX5_addCard 55 = .ok (.return_, 1) := by decide +kernel
theorem dX5_cardNamed_0 : decode cX5_cardNamed 0 = .ok (.iconst 0, 1) := by decide +kernel
theorem dX5_cardNamed_1 : decode cX5_cardNamed 1 = .ok (.istore_n 2, 1) := by decide +kernel
theorem dX5_cardNamed_2 : decode cX5_cardNamed 2 = .ok (.iload_n 2, 1) := by decide +kernel
theorem dX5_cardNamed_3 : decode cX5_cardNamed 3 = .ok (.aload_n 0, 1) := by decide +kernel
theorem dX5_cardNamed_4 : decode cX5_cardNamed 4 = .ok (.getfield 42, 3) := by decide +kernel
theorem dX5_cardNamed_7 : decode cX5_cardNamed 7 = .ok (.if_icmp .ge 33, 3) := by decide +kernel
theorem dX5_cardNamed_10 : decode cX5_cardNamed 10 = .ok (.iload_n 2, 1) := by decide +kernel
theorem dX5_cardNamed_11 : decode cX5_cardNamed 11 = .ok (.aload_n 0, 1) := by decide +kernel
theorem dX5_cardNamed_12 : decode cX5_cardNamed 12 = .ok (.getfield 19, 3) := by decide +kernel
theorem dX5_cardNamed_15 : decode cX5_cardNamed 15 = .ok (.arraylength, 1) := by decide +kernel
theorem dX5_cardNamed_16 : decode cX5_cardNamed 16 = .ok (.if_icmp .ge 24, 3) := by decide +kernel
theorem dX5_cardNamed_19 : decode cX5_cardNamed 19 = .ok (.aload_n 0, 1) := by decide +kernel
theorem dX5_cardNamed_20 : decode cX5_cardNamed 20 = .ok (.getfield 19, 3) := by decide +kernel
theorem dX5_cardNamed_23 : decode cX5_cardNamed 23 = .ok (.iload_n 2, 1) := by decide +kernel
theorem dX5_cardNamed_24 : decode cX5_cardNamed 24 = .ok (.aaload, 1) := by decide +kernel
theorem dX5_cardNamed_25 : decode cX5_cardNamed 25 = .ok (.getfield 78, 3) := by decide +kernel
theorem dX5_cardNamed_28 : decode cX5_cardNamed 28 = .ok (.iload_n 1, 1) := by decide +kernel
theorem dX5_cardNamed_29 : decode cX5_cardNamed 29 = .ok (.if_icmp .ne 5, 3) := by decide +kernel
theorem dX5_cardNamed_32 : decode cX5_cardNamed 32 = .ok (.iload_n 2, 1) := by decide +kernel
theorem dX5_cardNamed_33 : decode cX5_cardNamed 33 = .ok (.ireturn, 1) := by decide +kernel
theorem dX5_cardNamed_34 : decode cX5_cardNamed 34 = .ok (.iinc 2 1, 3) := by decide +kernel
theorem dX5_cardNamed_37 : decode cX5_cardNamed 37 = .ok (.goto (-35), 3) := by decide +kernel
theorem dX5_cardNamed_40 : decode cX5_cardNamed 40 = .ok (.iconst (-1), 1) := by decide +kernel
theorem dX5_cardNamed_41 : decode cX5_cardNamed 41 = .ok (.ireturn, 1) := by decide +kernel
theorem dX5_numberOfState_0 : decode cX5_numberOfState 0 = .ok (.iload_n 1, 1) := by decide +kernel
theorem dX5_numberOfState_1 : decode cX5_numberOfState 1 = .ok (.tableswitch 158 0 14 #[75, 80, 85, 90, 95, 100, 105, 110, 123, 128, 133, 138, 143, 148, 153], 75) := by decide +kernel
theorem dX5_numberOfState_76 : decode cX5_numberOfState 76 = .ok (.aload_n 0, 1) := by decide +kernel
theorem dX5_numberOfState_77 : decode cX5_numberOfState 77 = .ok (.getfield 39, 3) := by decide +kernel
theorem dX5_numberOfState_80 : decode cX5_numberOfState 80 = .ok (.ireturn, 1) := by decide +kernel
theorem dX5_numberOfState_81 : decode cX5_numberOfState 81 = .ok (.aload_n 0, 1) := by decide +kernel
theorem dX5_numberOfState_82 : decode cX5_numberOfState 82 = .ok (.getfield 42, 3) := by decide +kernel
theorem dX5_numberOfState_85 : decode cX5_numberOfState 85 = .ok (.ireturn, 1) := by decide +kernel
theorem dX5_numberOfState_86 : decode cX5_numberOfState 86 = .ok (.aload_n 0, 1) := by decide +kernel
theorem dX5_numberOfState_87 : decode cX5_numberOfState 87 = .ok (.getfield 23, 3) := by decide +kernel
theorem dX5_numberOfState_90 : decode cX5_numberOfState 90 = .ok (.ireturn, 1) := by decide +kernel
theorem dX5_numberOfState_91 : decode cX5_numberOfState 91 = .ok (.aload_n 0, 1) := by decide +kernel
theorem dX5_numberOfState_92 : decode cX5_numberOfState 92 = .ok (.getfield 27, 3) := by decide +kernel
theorem dX5_numberOfState_95 : decode cX5_numberOfState 95 = .ok (.ireturn, 1) := by decide +kernel
theorem dX5_numberOfState_96 : decode cX5_numberOfState 96 = .ok (.aload_n 0, 1) := by decide +kernel
theorem dX5_numberOfState_97 : decode cX5_numberOfState 97 = .ok (.getfield 48, 3) := by decide +kernel
theorem dX5_numberOfState_100 : decode cX5_numberOfState 100 = .ok (.ireturn, 1) := by decide +kernel
theorem dX5_numberOfState_101 : decode cX5_numberOfState 101 = .ok (.aload_n 0, 1) := by decide +kernel
theorem dX5_numberOfState_102 : decode cX5_numberOfState 102 = .ok (.getfield 51, 3) := by decide +kernel
theorem dX5_numberOfState_105 : decode cX5_numberOfState 105 = .ok (.ireturn, 1) := by decide +kernel
theorem dX5_numberOfState_106 : decode cX5_numberOfState 106 = .ok (.aload_n 0, 1) := by decide +kernel
theorem dX5_numberOfState_107 : decode cX5_numberOfState 107 = .ok (.invokevirtual 84, 3) := by decide +kernel
theorem dX5_numberOfState_110 : decode cX5_numberOfState 110 = .ok (.ireturn, 1) := by decide +kernel
theorem dX5_numberOfState_111 : decode cX5_numberOfState 111 = .ok (.aload_n 0, 1) := by decide +kernel
theorem dX5_numberOfState_112 : decode cX5_numberOfState 112 = .ok (.invokevirtual 88, 3) := by decide +kernel
theorem dX5_numberOfState_115 : decode cX5_numberOfState 115 = .ok (.ifCond .eq 7, 3) := by decide +kernel
theorem dX5_numberOfState_118 : decode cX5_numberOfState 118 = .ok (.iconst 1, 1) := by decide +kernel
theorem dX5_numberOfState_119 : decode cX5_numberOfState 119 = .ok (.goto 4, 3) := by decide +kernel
theorem dX5_numberOfState_122 : decode cX5_numberOfState 122 = .ok (.iconst 0, 1) := by decide +kernel
theorem dX5_numberOfState_123 : decode cX5_numberOfState 123 = .ok (.ireturn, 1) := by decide +kernel
theorem dX5_numberOfState_124 : decode cX5_numberOfState 124 = .ok (.aload_n 0, 1) := by decide +kernel
theorem dX5_numberOfState_125 : decode cX5_numberOfState 125 = .ok (.invokevirtual 92, 3) := by decide +kernel
theorem dX5_numberOfState_128 : decode cX5_numberOfState 128 = .ok (.ireturn, 1) := by decide +kernel
theorem dX5_numberOfState_129 : decode cX5_numberOfState 129 = .ok (.aload_n 0, 1) := by decide +kernel
theorem dX5_numberOfState_130 : decode cX5_numberOfState 130 = .ok (.getfield 54, 3) := by decide +kernel
theorem dX5_numberOfState_133 : decode cX5_numberOfState 133 = .ok (.ireturn, 1) := by decide +kernel
theorem dX5_numberOfState_134 : decode cX5_numberOfState 134 = .ok (.aload_n 0, 1) := by decide +kernel
theorem dX5_numberOfState_135 : decode cX5_numberOfState 135 = .ok (.getfield 57, 3) := by decide +kernel
theorem dX5_numberOfState_138 : decode cX5_numberOfState 138 = .ok (.ireturn, 1) := by decide +kernel
theorem dX5_numberOfState_139 : decode cX5_numberOfState 139 = .ok (.aload_n 0, 1) := by decide +kernel
theorem dX5_numberOfState_140 : decode cX5_numberOfState 140 = .ok (.getfield 60, 3) := by decide +kernel
theorem dX5_numberOfState_143 : decode cX5_numberOfState 143 = .ok (.ireturn, 1) := by decide +kernel
theorem dX5_numberOfState_144 : decode cX5_numberOfState 144 = .ok (.aload_n 0, 1) := by decide +kernel
theorem dX5_numberOfState_145 : decode cX5_numberOfState 145 = .ok (.getfield 63, 3) := by decide +kernel
theorem dX5_numberOfState_148 : decode cX5_numberOfState 148 = .ok (.ireturn, 1) := by decide +kernel
theorem dX5_numberOfState_149 : decode cX5_numberOfState 149 = .ok (.aload_n 0, 1) := by decide +kernel
theorem dX5_numberOfState_150 : decode cX5_numberOfState 150 = .ok (.getfield 69, 3) := by decide +kernel
theorem dX5_numberOfState_153 : decode cX5_numberOfState 153 = .ok (.ireturn, 1) := by decide +kernel
theorem dX5_numberOfState_154 : decode cX5_numberOfState 154 = .ok (.aload_n 0, 1) := by decide +kernel
theorem dX5_numberOfState_155 : decode cX5_numberOfState 155 = .ok (.getfield 72, 3) := by decide +kernel
theorem dX5_numberOfState_158 : decode cX5_numberOfState 158 = .ok (.ireturn, 1) := by decide +kernel
theorem dX5_numberOfState_159 : decode cX5_numberOfState 159 = .ok (.aload_n 0, 1) := by decide +kernel
theorem dX5_numberOfState_160 : decode cX5_numberOfState 160 = .ok (.invokevirtual 95, 3) := by decide +kernel
theorem dX5_numberOfState_163 : decode cX5_numberOfState 163 = .ok (.ireturn, 1) := by decide +kernel
theorem dX5_numberOfCard_0 : decode cX5_numberOfCard 0 = .ok (.aload_n 0, 1) := by decide +kernel
theorem dX5_numberOfCard_1 : decode cX5_numberOfCard 1 = .ok (.iload_n 1, 1) := by decide +kernel
theorem dX5_numberOfCard_2 : decode cX5_numberOfCard 2 = .ok (.invokevirtual 98, 3) := by decide +kernel
theorem dX5_numberOfCard_5 : decode cX5_numberOfCard 5 = .ok (.ifCond .ne 5, 3) := by decide +kernel
theorem dX5_numberOfCard_8 : decode cX5_numberOfCard 8 = .ok (.iconst (-1), 1) := by decide +kernel
theorem dX5_numberOfCard_9 : decode cX5_numberOfCard 9 = .ok (.ireturn, 1) := by decide +kernel
theorem dX5_numberOfCard_10 : decode cX5_numberOfCard 10 = .ok (.iload_n 2, 1) := by decide +kernel
theorem dX5_numberOfCard_11 : decode cX5_numberOfCard 11 = .ok (.tableswitch 101 0 5 #[37, 47, 65, 83, 89, 95], 37) := by decide +kernel
theorem dX5_numberOfCard_48 : decode cX5_numberOfCard 48 = .ok (.aload_n 0, 1) := by decide +kernel
theorem dX5_numberOfCard_49 : decode cX5_numberOfCard 49 = .ok (.getfield 19, 3) := by decide +kernel
theorem dX5_numberOfCard_52 : decode cX5_numberOfCard 52 = .ok (.iload_n 1, 1) := by decide +kernel
theorem dX5_numberOfCard_53 : decode cX5_numberOfCard 53 = .ok (.aaload, 1) := by decide +kernel
theorem dX5_numberOfCard_54 : decode cX5_numberOfCard 54 = .ok (.getfield 81, 3) := by decide +kernel
theorem dX5_numberOfCard_57 : decode cX5_numberOfCard 57 = .ok (.ireturn, 1) := by decide +kernel
theorem dX5_numberOfCard_58 : decode cX5_numberOfCard 58 = .ok (.aload_n 0, 1) := by decide +kernel
theorem dX5_numberOfCard_59 : decode cX5_numberOfCard 59 = .ok (.getfield 19, 3) := by decide +kernel
theorem dX5_numberOfCard_62 : decode cX5_numberOfCard 62 = .ok (.iload_n 1, 1) := by decide +kernel
theorem dX5_numberOfCard_63 : decode cX5_numberOfCard 63 = .ok (.aaload, 1) := by decide +kernel
theorem dX5_numberOfCard_64 : decode cX5_numberOfCard 64 = .ok (.getfield 102, 3) := by decide +kernel
theorem dX5_numberOfCard_67 : decode cX5_numberOfCard 67 = .ok (.ifCond .eq 7, 3) := by decide +kernel
theorem dX5_numberOfCard_70 : decode cX5_numberOfCard 70 = .ok (.iconst 1, 1) := by decide +kernel
theorem dX5_numberOfCard_71 : decode cX5_numberOfCard 71 = .ok (.goto 4, 3) := by decide +kernel
theorem dX5_numberOfCard_74 : decode cX5_numberOfCard 74 = .ok (.iconst 0, 1) := by decide +kernel
theorem dX5_numberOfCard_75 : decode cX5_numberOfCard 75 = .ok (.ireturn, 1) := by decide +kernel
theorem dX5_numberOfCard_76 : decode cX5_numberOfCard 76 = .ok (.aload_n 0, 1) := by decide +kernel
theorem dX5_numberOfCard_77 : decode cX5_numberOfCard 77 = .ok (.getfield 19, 3) := by decide +kernel
theorem dX5_numberOfCard_80 : decode cX5_numberOfCard 80 = .ok (.iload_n 1, 1) := by decide +kernel
theorem dX5_numberOfCard_81 : decode cX5_numberOfCard 81 = .ok (.aaload, 1) := by decide +kernel
theorem dX5_numberOfCard_82 : decode cX5_numberOfCard 82 = .ok (.getfield 106, 3) := by decide +kernel
theorem dX5_numberOfCard_85 : decode cX5_numberOfCard 85 = .ok (.ifCond .eq 7, 3) := by decide +kernel
theorem dX5_numberOfCard_88 : decode cX5_numberOfCard 88 = .ok (.iconst 1, 1) := by decide +kernel
theorem dX5_numberOfCard_89 : decode cX5_numberOfCard 89 = .ok (.goto 4, 3) := by decide +kernel
theorem dX5_numberOfCard_92 : decode cX5_numberOfCard 92 = .ok (.iconst 0, 1) := by decide +kernel
theorem dX5_numberOfCard_93 : decode cX5_numberOfCard 93 = .ok (.ireturn, 1) := by decide +kernel
theorem dX5_numberOfCard_94 : decode cX5_numberOfCard 94 = .ok (.aload_n 0, 1) := by decide +kernel
theorem dX5_numberOfCard_95 : decode cX5_numberOfCard 95 = .ok (.iload_n 1, 1) := by decide +kernel
theorem dX5_numberOfCard_96 : decode cX5_numberOfCard 96 = .ok (.invokevirtual 109, 3) := by decide +kernel
theorem dX5_numberOfCard_99 : decode cX5_numberOfCard 99 = .ok (.ireturn, 1) := by decide +kernel
theorem dX5_numberOfCard_100 : decode cX5_numberOfCard 100 = .ok (.aload_n 0, 1) := by decide +kernel
theorem dX5_numberOfCard_101 : decode cX5_numberOfCard 101 = .ok (.iload_n 1, 1) := by decide +kernel
theorem dX5_numberOfCard_102 : decode cX5_numberOfCard 102 = .ok (.invokevirtual 113, 3) := by decide +kernel
theorem dX5_numberOfCard_105 : decode cX5_numberOfCard 105 = .ok (.ireturn, 1) := by decide +kernel
theorem dX5_numberOfCard_106 : decode cX5_numberOfCard 106 = .ok (.aload_n 0, 1) := by decide +kernel
theorem dX5_numberOfCard_107 : decode cX5_numberOfCard 107 = .ok (.iload_n 1, 1) := by decide +kernel
theorem dX5_numberOfCard_108 : decode cX5_numberOfCard 108 = .ok (.invokevirtual 116, 3) := by decide +kernel
theorem dX5_numberOfCard_111 : decode cX5_numberOfCard 111 = .ok (.ireturn, 1) := by decide +kernel
theorem dX5_numberOfCard_112 : decode cX5_numberOfCard 112 = .ok (.aload_n 0, 1) := by decide +kernel
theorem dX5_numberOfCard_113 : decode cX5_numberOfCard 113 = .ok (.getfield 19, 3) := by decide +kernel
theorem dX5_numberOfCard_116 : decode cX5_numberOfCard 116 = .ok (.iload_n 1, 1) := by decide +kernel
theorem dX5_numberOfCard_117 : decode cX5_numberOfCard 117 = .ok (.aaload, 1) := by decide +kernel
theorem dX5_numberOfCard_118 : decode cX5_numberOfCard 118 = .ok (.getfield 119, 3) := by decide +kernel
theorem dX5_numberOfCard_121 : decode cX5_numberOfCard 121 = .ok (.ireturn, 1) := by decide +kernel
theorem dX5_gateWithInLine_0 : decode cX5_gateWithInLine 0 = .ok (.iconst 0, 1) := by decide +kernel
theorem dX5_gateWithInLine_1 : decode cX5_gateWithInLine 1 = .ok (.istore_n 2, 1) := by decide +kernel
theorem dX5_gateWithInLine_2 : decode cX5_gateWithInLine 2 = .ok (.iload_n 2, 1) := by decide +kernel
theorem dX5_gateWithInLine_3 : decode cX5_gateWithInLine 3 = .ok (.aload_n 0, 1) := by decide +kernel
theorem dX5_gateWithInLine_4 : decode cX5_gateWithInLine 4 = .ok (.getfield 39, 3) := by decide +kernel
theorem dX5_gateWithInLine_7 : decode cX5_gateWithInLine 7 = .ok (.if_icmp .ge 54, 3) := by decide +kernel
theorem dX5_gateWithInLine_10 : decode cX5_gateWithInLine 10 = .ok (.iload_n 2, 1) := by decide +kernel
theorem dX5_gateWithInLine_11 : decode cX5_gateWithInLine 11 = .ok (.aload_n 0, 1) := by decide +kernel
theorem dX5_gateWithInLine_12 : decode cX5_gateWithInLine 12 = .ok (.getfield 11, 3) := by decide +kernel
theorem dX5_gateWithInLine_15 : decode cX5_gateWithInLine 15 = .ok (.arraylength, 1) := by decide +kernel
theorem dX5_gateWithInLine_16 : decode cX5_gateWithInLine 16 = .ok (.if_icmp .ge 45, 3) := by decide +kernel
theorem dX5_gateWithInLine_19 : decode cX5_gateWithInLine 19 = .ok (.aload_n 0, 1) := by decide +kernel
theorem dX5_gateWithInLine_20 : decode cX5_gateWithInLine 20 = .ok (.getfield 11, 3) := by decide +kernel
theorem dX5_gateWithInLine_23 : decode cX5_gateWithInLine 23 = .ok (.iload_n 2, 1) := by decide +kernel
theorem dX5_gateWithInLine_24 : decode cX5_gateWithInLine 24 = .ok (.aaload, 1) := by decide +kernel
theorem dX5_gateWithInLine_25 : decode cX5_gateWithInLine 25 = .ok (.getfield 122, 3) := by decide +kernel
theorem dX5_gateWithInLine_28 : decode cX5_gateWithInLine 28 = .ok (.iload_n 1, 1) := by decide +kernel
theorem dX5_gateWithInLine_29 : decode cX5_gateWithInLine 29 = .ok (.invokevirtual 126, 3) := by decide +kernel
theorem dX5_gateWithInLine_32 : decode cX5_gateWithInLine 32 = .ok (.iconst (-1), 1) := by decide +kernel
theorem dX5_gateWithInLine_33 : decode cX5_gateWithInLine 33 = .ok (.if_icmp .ne 20, 3) := by decide +kernel
theorem dX5_gateWithInLine_36 : decode cX5_gateWithInLine 36 = .ok (.aload_n 0, 1) := by decide +kernel
theorem dX5_gateWithInLine_37 : decode cX5_gateWithInLine 37 = .ok (.getfield 11, 3) := by decide +kernel
theorem dX5_gateWithInLine_40 : decode cX5_gateWithInLine 40 = .ok (.iload_n 2, 1) := by decide +kernel
theorem dX5_gateWithInLine_41 : decode cX5_gateWithInLine 41 = .ok (.aaload, 1) := by decide +kernel
theorem dX5_gateWithInLine_42 : decode cX5_gateWithInLine 42 = .ok (.getfield 131, 3) := by decide +kernel
theorem dX5_gateWithInLine_45 : decode cX5_gateWithInLine 45 = .ok (.iload_n 1, 1) := by decide +kernel
theorem dX5_gateWithInLine_46 : decode cX5_gateWithInLine 46 = .ok (.invokevirtual 126, 3) := by decide +kernel
theorem dX5_gateWithInLine_49 : decode cX5_gateWithInLine 49 = .ok (.iconst (-1), 1) := by decide +kernel
theorem dX5_gateWithInLine_50 : decode cX5_gateWithInLine 50 = .ok (.if_icmp .eq 5, 3) := by decide +kernel
theorem dX5_gateWithInLine_53 : decode cX5_gateWithInLine 53 = .ok (.iload_n 2, 1) := by decide +kernel
theorem dX5_gateWithInLine_54 : decode cX5_gateWithInLine 54 = .ok (.ireturn, 1) := by decide +kernel
theorem dX5_gateWithInLine_55 : decode cX5_gateWithInLine 55 = .ok (.iinc 2 1, 3) := by decide +kernel
theorem dX5_gateWithInLine_58 : decode cX5_gateWithInLine 58 = .ok (.goto (-56), 3) := by decide +kernel
theorem dX5_gateWithInLine_61 : decode cX5_gateWithInLine 61 = .ok (.iconst (-1), 1) := by decide +kernel
theorem dX5_gateWithInLine_62 : decode cX5_gateWithInLine 62 = .ok (.ireturn, 1) := by decide +kernel
theorem dX5_sideInLine_0 : decode cX5_sideInLine 0 = .ok (.aload_n 0, 1) := by decide +kernel
theorem dX5_sideInLine_1 : decode cX5_sideInLine 1 = .ok (.iload_n 1, 1) := by decide +kernel
theorem dX5_sideInLine_2 : decode cX5_sideInLine 2 = .ok (.invokevirtual 109, 3) := by decide +kernel
theorem dX5_sideInLine_5 : decode cX5_sideInLine 5 = .ok (.istore_n 2, 1) := by decide +kernel
theorem dX5_sideInLine_6 : decode cX5_sideInLine 6 = .ok (.aload_n 0, 1) := by decide +kernel
theorem dX5_sideInLine_7 : decode cX5_sideInLine 7 = .ok (.iload_n 2, 1) := by decide +kernel
theorem dX5_sideInLine_8 : decode cX5_sideInLine 8 = .ok (.invokevirtual 134, 3) := by decide +kernel
theorem dX5_sideInLine_11 : decode cX5_sideInLine 11 = .ok (.ifCond .ne 5, 3) := by decide +kernel
theorem dX5_sideInLine_14 : decode cX5_sideInLine 14 = .ok (.iconst (-1), 1) := by decide +kernel
theorem dX5_sideInLine_15 : decode cX5_sideInLine 15 = .ok (.ireturn, 1) := by decide +kernel
theorem dX5_sideInLine_16 : decode cX5_sideInLine 16 = .ok (.aload_n 0, 1) := by decide +kernel
theorem dX5_sideInLine_17 : decode cX5_sideInLine 17 = .ok (.getfield 11, 3) := by decide +kernel
theorem dX5_sideInLine_20 : decode cX5_sideInLine 20 = .ok (.iload_n 2, 1) := by decide +kernel
theorem dX5_sideInLine_21 : decode cX5_sideInLine 21 = .ok (.aaload, 1) := by decide +kernel
theorem dX5_sideInLine_22 : decode cX5_sideInLine 22 = .ok (.getfield 122, 3) := by decide +kernel
theorem dX5_sideInLine_25 : decode cX5_sideInLine 25 = .ok (.iload_n 1, 1) := by decide +kernel
theorem dX5_sideInLine_26 : decode cX5_sideInLine 26 = .ok (.invokevirtual 126, 3) := by decide +kernel
theorem dX5_sideInLine_29 : decode cX5_sideInLine 29 = .ok (.iconst (-1), 1) := by decide +kernel
theorem dX5_sideInLine_30 : decode cX5_sideInLine 30 = .ok (.if_icmp .eq 7, 3) := by decide +kernel
theorem dX5_sideInLine_33 : decode cX5_sideInLine 33 = .ok (.iconst 0, 1) := by decide +kernel
theorem dX5_sideInLine_34 : decode cX5_sideInLine 34 = .ok (.goto 4, 3) := by decide +kernel
theorem dX5_sideInLine_37 : decode cX5_sideInLine 37 = .ok (.iconst 1, 1) := by decide +kernel
theorem dX5_sideInLine_38 : decode cX5_sideInLine 38 = .ok (.ireturn, 1) := by decide +kernel
theorem dX5_placeInLine_0 : decode cX5_placeInLine 0 = .ok (.aload_n 0, 1) := by decide +kernel
theorem dX5_placeInLine_1 : decode cX5_placeInLine 1 = .ok (.iload_n 1, 1) := by decide +kernel
theorem dX5_placeInLine_2 : decode cX5_placeInLine 2 = .ok (.invokevirtual 109, 3) := by decide +kernel
theorem dX5_placeInLine_5 : decode cX5_placeInLine 5 = .ok (.istore_n 2, 1) := by decide +kernel
theorem dX5_placeInLine_6 : decode cX5_placeInLine 6 = .ok (.aload_n 0, 1) := by decide +kernel
theorem dX5_placeInLine_7 : decode cX5_placeInLine 7 = .ok (.iload_n 2, 1) := by decide +kernel
theorem dX5_placeInLine_8 : decode cX5_placeInLine 8 = .ok (.invokevirtual 134, 3) := by decide +kernel
theorem dX5_placeInLine_11 : decode cX5_placeInLine 11 = .ok (.ifCond .ne 5, 3) := by decide +kernel
theorem dX5_placeInLine_14 : decode cX5_placeInLine 14 = .ok (.iconst (-1), 1) := by decide +kernel
theorem dX5_placeInLine_15 : decode cX5_placeInLine 15 = .ok (.ireturn, 1) := by decide +kernel
theorem dX5_placeInLine_16 : decode cX5_placeInLine 16 = .ok (.aload_n 0, 1) := by decide +kernel
theorem dX5_placeInLine_17 : decode cX5_placeInLine 17 = .ok (.getfield 11, 3) := by decide +kernel
theorem dX5_placeInLine_20 : decode cX5_placeInLine 20 = .ok (.iload_n 2, 1) := by decide +kernel
theorem dX5_placeInLine_21 : decode cX5_placeInLine 21 = .ok (.aaload, 1) := by decide +kernel
theorem dX5_placeInLine_22 : decode cX5_placeInLine 22 = .ok (.aload_n 0, 1) := by decide +kernel
theorem dX5_placeInLine_23 : decode cX5_placeInLine 23 = .ok (.iload_n 1, 1) := by decide +kernel
theorem dX5_placeInLine_24 : decode cX5_placeInLine 24 = .ok (.invokevirtual 113, 3) := by decide +kernel
theorem dX5_placeInLine_27 : decode cX5_placeInLine 27 = .ok (.invokevirtual 137, 3) := by decide +kernel
theorem dX5_placeInLine_30 : decode cX5_placeInLine 30 = .ok (.iload_n 1, 1) := by decide +kernel
theorem dX5_placeInLine_31 : decode cX5_placeInLine 31 = .ok (.invokevirtual 126, 3) := by decide +kernel
theorem dX5_placeInLine_34 : decode cX5_placeInLine 34 = .ok (.ireturn, 1) := by decide +kernel
theorem dX5_peopleInAllLines_0 : decode cX5_peopleInAllLines 0 = .ok (.iconst 0, 1) := by decide +kernel
theorem dX5_peopleInAllLines_1 : decode cX5_peopleInAllLines 1 = .ok (.istore_n 1, 1) := by decide +kernel
theorem dX5_peopleInAllLines_2 : decode cX5_peopleInAllLines 2 = .ok (.aload_n 0, 1) := by decide +kernel
theorem dX5_peopleInAllLines_3 : decode cX5_peopleInAllLines 3 = .ok (.getfield 11, 3) := by decide +kernel
theorem dX5_peopleInAllLines_6 : decode cX5_peopleInAllLines 6 = .ok (.astore_n 2, 1) := by decide +kernel
theorem dX5_peopleInAllLines_7 : decode cX5_peopleInAllLines 7 = .ok (.aload_n 2, 1) := by decide +kernel
theorem dX5_peopleInAllLines_8 : decode cX5_peopleInAllLines 8 = .ok (.arraylength, 1) := by decide +kernel
theorem dX5_peopleInAllLines_9 : decode cX5_peopleInAllLines 9 = .ok (.istore_n 3, 1) := by decide +kernel
theorem dX5_peopleInAllLines_10 : decode cX5_peopleInAllLines 10 = .ok (.iconst 0, 1) := by decide +kernel
theorem dX5_peopleInAllLines_11 : decode cX5_peopleInAllLines 11 = .ok (.istore 4, 2) := by decide +kernel
theorem dX5_peopleInAllLines_13 : decode cX5_peopleInAllLines 13 = .ok (.iload 4, 2) := by decide +kernel
theorem dX5_peopleInAllLines_15 : decode cX5_peopleInAllLines 15 = .ok (.iload_n 3, 1) := by decide +kernel
theorem dX5_peopleInAllLines_16 : decode cX5_peopleInAllLines 16 = .ok (.if_icmp .ge 23, 3) := by decide +kernel
theorem dX5_peopleInAllLines_19 : decode cX5_peopleInAllLines 19 = .ok (.aload_n 2, 1) := by decide +kernel
theorem dX5_peopleInAllLines_20 : decode cX5_peopleInAllLines 20 = .ok (.iload 4, 2) := by decide +kernel
theorem dX5_peopleInAllLines_22 : decode cX5_peopleInAllLines 22 = .ok (.aaload, 1) := by decide +kernel
theorem dX5_peopleInAllLines_23 : decode cX5_peopleInAllLines 23 = .ok (.astore 5, 2) := by decide +kernel
theorem dX5_peopleInAllLines_25 : decode cX5_peopleInAllLines 25 = .ok (.iload_n 1, 1) := by decide +kernel
theorem dX5_peopleInAllLines_26 : decode cX5_peopleInAllLines 26 = .ok (.aload 5, 2) := by decide +kernel
theorem dX5_peopleInAllLines_28 : decode cX5_peopleInAllLines 28 = .ok (.invokevirtual 141, 3) := by decide +kernel
theorem dX5_peopleInAllLines_31 : decode cX5_peopleInAllLines 31 = .ok (.iadd, 1) := by decide +kernel
theorem dX5_peopleInAllLines_32 : decode cX5_peopleInAllLines 32 = .ok (.istore_n 1, 1) := by decide +kernel
theorem dX5_peopleInAllLines_33 : decode cX5_peopleInAllLines 33 = .ok (.iinc 4 1, 3) := by decide +kernel
theorem dX5_peopleInAllLines_36 : decode cX5_peopleInAllLines 36 = .ok (.goto (-23), 3) := by decide +kernel
theorem dX5_peopleInAllLines_39 : decode cX5_peopleInAllLines 39 = .ok (.iload_n 1, 1) := by decide +kernel
theorem dX5_peopleInAllLines_40 : decode cX5_peopleInAllLines 40 = .ok (.ireturn, 1) := by decide +kernel
theorem dX5_peopleInInnerLines_0 : decode cX5_peopleInInnerLines 0 = .ok (.iconst 0, 1) := by decide +kernel
theorem dX5_peopleInInnerLines_1 : decode cX5_peopleInInnerLines 1 = .ok (.istore_n 1, 1) := by decide +kernel
theorem dX5_peopleInInnerLines_2 : decode cX5_peopleInInnerLines 2 = .ok (.aload_n 0, 1) := by decide +kernel
theorem dX5_peopleInInnerLines_3 : decode cX5_peopleInInnerLines 3 = .ok (.getfield 11, 3) := by decide +kernel
theorem dX5_peopleInInnerLines_6 : decode cX5_peopleInInnerLines 6 = .ok (.astore_n 2, 1) := by decide +kernel
theorem dX5_peopleInInnerLines_7 : decode cX5_peopleInInnerLines 7 = .ok (.aload_n 2, 1) := by decide +kernel
theorem dX5_peopleInInnerLines_8 : decode cX5_peopleInInnerLines 8 = .ok (.arraylength, 1) := by decide +kernel
theorem dX5_peopleInInnerLines_9 : decode cX5_peopleInInnerLines 9 = .ok (.istore_n 3, 1) := by decide +kernel
theorem dX5_peopleInInnerLines_10 : decode cX5_peopleInInnerLines 10 = .ok (.iconst 0, 1) := by decide +kernel
theorem dX5_peopleInInnerLines_11 : decode cX5_peopleInInnerLines 11 = .ok (.istore 4, 2) := by decide +kernel
theorem dX5_peopleInInnerLines_13 : decode cX5_peopleInInnerLines 13 = .ok (.iload 4, 2) := by decide +kernel
theorem dX5_peopleInInnerLines_15 : decode cX5_peopleInInnerLines 15 = .ok (.iload_n 3, 1) := by decide +kernel
theorem dX5_peopleInInnerLines_16 : decode cX5_peopleInInnerLines 16 = .ok (.if_icmp .ge 26, 3) := by decide +kernel
theorem dX5_peopleInInnerLines_19 : decode cX5_peopleInInnerLines 19 = .ok (.aload_n 2, 1) := by decide +kernel
theorem dX5_peopleInInnerLines_20 : decode cX5_peopleInInnerLines 20 = .ok (.iload 4, 2) := by decide +kernel
theorem dX5_peopleInInnerLines_22 : decode cX5_peopleInInnerLines 22 = .ok (.aaload, 1) := by decide +kernel
theorem dX5_peopleInInnerLines_23 : decode cX5_peopleInInnerLines 23 = .ok (.astore 5, 2) := by decide +kernel
theorem dX5_peopleInInnerLines_25 : decode cX5_peopleInInnerLines 25 = .ok (.iload_n 1, 1) := by decide +kernel
theorem dX5_peopleInInnerLines_26 : decode cX5_peopleInInnerLines 26 = .ok (.aload 5, 2) := by decide +kernel
theorem dX5_peopleInInnerLines_28 : decode cX5_peopleInInnerLines 28 = .ok (.getfield 131, 3) := by decide +kernel
theorem dX5_peopleInInnerLines_31 : decode cX5_peopleInInnerLines 31 = .ok (.getfield 144, 3) := by decide +kernel
theorem dX5_peopleInInnerLines_34 : decode cX5_peopleInInnerLines 34 = .ok (.iadd, 1) := by decide +kernel
theorem dX5_peopleInInnerLines_35 : decode cX5_peopleInInnerLines 35 = .ok (.istore_n 1, 1) := by decide +kernel
theorem dX5_peopleInInnerLines_36 : decode cX5_peopleInInnerLines 36 = .ok (.iinc 4 1, 3) := by decide +kernel
theorem dX5_peopleInInnerLines_39 : decode cX5_peopleInInnerLines 39 = .ok (.goto (-26), 3) := by decide +kernel
theorem dX5_peopleInInnerLines_42 : decode cX5_peopleInInnerLines 42 = .ok (.iload_n 1, 1) := by decide +kernel
theorem dX5_peopleInInnerLines_43 : decode cX5_peopleInInnerLines 43 = .ok (.ireturn, 1) := by decide +kernel
theorem dX5_openGates_0 : decode cX5_openGates 0 = .ok (.iconst 0, 1) := by decide +kernel
theorem dX5_openGates_1 : decode cX5_openGates 1 = .ok (.istore_n 1, 1) := by decide +kernel
theorem dX5_openGates_2 : decode cX5_openGates 2 = .ok (.aload_n 0, 1) := by decide +kernel
theorem dX5_openGates_3 : decode cX5_openGates 3 = .ok (.getfield 11, 3) := by decide +kernel
theorem dX5_openGates_6 : decode cX5_openGates 6 = .ok (.astore_n 2, 1) := by decide +kernel
theorem dX5_openGates_7 : decode cX5_openGates 7 = .ok (.aload_n 2, 1) := by decide +kernel
theorem dX5_openGates_8 : decode cX5_openGates 8 = .ok (.arraylength, 1) := by decide +kernel
theorem dX5_openGates_9 : decode cX5_openGates 9 = .ok (.istore_n 3, 1) := by decide +kernel
theorem dX5_openGates_10 : decode cX5_openGates 10 = .ok (.iconst 0, 1) := by decide +kernel
theorem dX5_openGates_11 : decode cX5_openGates 11 = .ok (.istore 4, 2) := by decide +kernel
theorem dX5_openGates_13 : decode cX5_openGates 13 = .ok (.iload 4, 2) := by decide +kernel
theorem dX5_openGates_15 : decode cX5_openGates 15 = .ok (.iload_n 3, 1) := by decide +kernel
theorem dX5_openGates_16 : decode cX5_openGates 16 = .ok (.if_icmp .ge 26, 3) := by decide +kernel
theorem dX5_openGates_19 : decode cX5_openGates 19 = .ok (.aload_n 2, 1) := by decide +kernel
theorem dX5_openGates_20 : decode cX5_openGates 20 = .ok (.iload 4, 2) := by decide +kernel
theorem dX5_openGates_22 : decode cX5_openGates 22 = .ok (.aaload, 1) := by decide +kernel
theorem dX5_openGates_23 : decode cX5_openGates 23 = .ok (.astore 5, 2) := by decide +kernel
theorem dX5_openGates_25 : decode cX5_openGates 25 = .ok (.aload 5, 2) := by decide +kernel
theorem dX5_openGates_27 : decode cX5_openGates 27 = .ok (.invokevirtual 147, 3) := by decide +kernel
theorem dX5_openGates_30 : decode cX5_openGates 30 = .ok (.ifCond .eq 6, 3) := by decide +kernel
theorem dX5_openGates_33 : decode cX5_openGates 33 = .ok (.iinc 1 1, 3) := by decide +kernel
theorem dX5_openGates_36 : decode cX5_openGates 36 = .ok (.iinc 4 1, 3) := by decide +kernel
theorem dX5_openGates_39 : decode cX5_openGates 39 = .ok (.goto (-26), 3) := by decide +kernel
theorem dX5_openGates_42 : decode cX5_openGates 42 = .ok (.iload_n 1, 1) := by decide +kernel
theorem dX5_openGates_43 : decode cX5_openGates 43 = .ok (.ireturn, 1) := by decide +kernel
theorem dX5_listedCards_0 : decode cX5_listedCards 0 = .ok (.iconst 0, 1) := by decide +kernel
theorem dX5_listedCards_1 : decode cX5_listedCards 1 = .ok (.istore_n 1, 1) := by decide +kernel
theorem dX5_listedCards_2 : decode cX5_listedCards 2 = .ok (.aload_n 0, 1) := by decide +kernel
theorem dX5_listedCards_3 : decode cX5_listedCards 3 = .ok (.getfield 19, 3) := by decide +kernel
theorem dX5_listedCards_6 : decode cX5_listedCards 6 = .ok (.astore_n 2, 1) := by decide +kernel
theorem dX5_listedCards_7 : decode cX5_listedCards 7 = .ok (.aload_n 2, 1) := by decide +kernel
theorem dX5_listedCards_8 : decode cX5_listedCards 8 = .ok (.arraylength, 1) := by decide +kernel
theorem dX5_listedCards_9 : decode cX5_listedCards 9 = .ok (.istore_n 3, 1) := by decide +kernel
theorem dX5_listedCards_10 : decode cX5_listedCards 10 = .ok (.iconst 0, 1) := by decide +kernel
theorem dX5_listedCards_11 : decode cX5_listedCards 11 = .ok (.istore 4, 2) := by decide +kernel
theorem dX5_listedCards_13 : decode cX5_listedCards 13 = .ok (.iload 4, 2) := by decide +kernel
theorem dX5_listedCards_15 : decode cX5_listedCards 15 = .ok (.iload_n 3, 1) := by decide +kernel
theorem dX5_listedCards_16 : decode cX5_listedCards 16 = .ok (.if_icmp .ge 26, 3) := by decide +kernel
theorem dX5_listedCards_19 : decode cX5_listedCards 19 = .ok (.aload_n 2, 1) := by decide +kernel
theorem dX5_listedCards_20 : decode cX5_listedCards 20 = .ok (.iload 4, 2) := by decide +kernel
theorem dX5_listedCards_22 : decode cX5_listedCards 22 = .ok (.aaload, 1) := by decide +kernel
theorem dX5_listedCards_23 : decode cX5_listedCards 23 = .ok (.astore 5, 2) := by decide +kernel
theorem dX5_listedCards_25 : decode cX5_listedCards 25 = .ok (.aload 5, 2) := by decide +kernel
theorem dX5_listedCards_27 : decode cX5_listedCards 27 = .ok (.getfield 106, 3) := by decide +kernel
theorem dX5_listedCards_30 : decode cX5_listedCards 30 = .ok (.ifCond .eq 6, 3) := by decide +kernel
theorem dX5_listedCards_33 : decode cX5_listedCards 33 = .ok (.iinc 1 1, 3) := by decide +kernel
theorem dX5_listedCards_36 : decode cX5_listedCards 36 = .ok (.iinc 4 1, 3) := by decide +kernel
theorem dX5_listedCards_39 : decode cX5_listedCards 39 = .ok (.goto (-26), 3) := by decide +kernel
theorem dX5_listedCards_42 : decode cX5_listedCards 42 = .ok (.iload_n 1, 1) := by decide +kernel
theorem dX5_listedCards_43 : decode cX5_listedCards 43 = .ok (.ireturn, 1) := by decide +kernel
theorem dX5_cardsInTwoLines_0 : decode cX5_cardsInTwoLines 0 = .ok (.iconst 0, 1) := by decide +kernel
theorem dX5_cardsInTwoLines_1 : decode cX5_cardsInTwoLines 1 = .ok (.istore_n 1, 1) := by decide +kernel
theorem dX5_cardsInTwoLines_2 : decode cX5_cardsInTwoLines 2 = .ok (.iconst 0, 1) := by decide +kernel
theorem dX5_cardsInTwoLines_3 : decode cX5_cardsInTwoLines 3 = .ok (.istore_n 2, 1) := by decide +kernel
theorem dX5_cardsInTwoLines_4 : decode cX5_cardsInTwoLines 4 = .ok (.iload_n 2, 1) := by decide +kernel
theorem dX5_cardsInTwoLines_5 : decode cX5_cardsInTwoLines 5 = .ok (.aload_n 0, 1) := by decide +kernel
theorem dX5_cardsInTwoLines_6 : decode cX5_cardsInTwoLines 6 = .ok (.getfield 42, 3) := by decide +kernel
theorem dX5_cardsInTwoLines_9 : decode cX5_cardsInTwoLines 9 = .ok (.if_icmp .ge 104, 3) := by decide +kernel
theorem dX5_cardsInTwoLines_12 : decode cX5_cardsInTwoLines 12 = .ok (.iload_n 2, 1) := by decide +kernel
theorem dX5_cardsInTwoLines_13 : decode cX5_cardsInTwoLines 13 = .ok (.aload_n 0, 1) := by decide +kernel
theorem dX5_cardsInTwoLines_14 : decode cX5_cardsInTwoLines 14 = .ok (.getfield 19, 3) := by decide +kernel
theorem dX5_cardsInTwoLines_17 : decode cX5_cardsInTwoLines 17 = .ok (.arraylength, 1) := by decide +kernel
theorem dX5_cardsInTwoLines_18 : decode cX5_cardsInTwoLines 18 = .ok (.if_icmp .ge 95, 3) := by decide +kernel
theorem dX5_cardsInTwoLines_21 : decode cX5_cardsInTwoLines 21 = .ok (.iconst 0, 1) := by decide +kernel
theorem dX5_cardsInTwoLines_22 : decode cX5_cardsInTwoLines 22 = .ok (.istore_n 3, 1) := by decide +kernel
theorem dX5_cardsInTwoLines_23 : decode cX5_cardsInTwoLines 23 = .ok (.aload_n 0, 1) := by decide +kernel
theorem dX5_cardsInTwoLines_24 : decode cX5_cardsInTwoLines 24 = .ok (.getfield 11, 3) := by decide +kernel
theorem dX5_cardsInTwoLines_27 : decode cX5_cardsInTwoLines 27 = .ok (.astore 4, 2) := by decide +kernel
theorem dX5_cardsInTwoLines_29 : decode cX5_cardsInTwoLines 29 = .ok (.aload 4, 2) := by decide +kernel
theorem dX5_cardsInTwoLines_31 : decode cX5_cardsInTwoLines 31 = .ok (.arraylength, 1) := by decide +kernel
theorem dX5_cardsInTwoLines_32 : decode cX5_cardsInTwoLines 32 = .ok (.istore 5, 2) := by decide +kernel
theorem dX5_cardsInTwoLines_34 : decode cX5_cardsInTwoLines 34 = .ok (.iconst 0, 1) := by decide +kernel
theorem dX5_cardsInTwoLines_35 : decode cX5_cardsInTwoLines 35 = .ok (.istore 6, 2) := by decide +kernel
theorem dX5_cardsInTwoLines_37 : decode cX5_cardsInTwoLines 37 = .ok (.iload 6, 2) := by decide +kernel
theorem dX5_cardsInTwoLines_39 : decode cX5_cardsInTwoLines 39 = .ok (.iload 5, 2) := by decide +kernel
theorem dX5_cardsInTwoLines_41 : decode cX5_cardsInTwoLines 41 = .ok (.if_icmp .ge 58, 3) := by decide +kernel
theorem dX5_cardsInTwoLines_44 : decode cX5_cardsInTwoLines 44 = .ok (.aload 4, 2) := by decide +kernel
theorem dX5_cardsInTwoLines_46 : decode cX5_cardsInTwoLines 46 = .ok (.iload 6, 2) := by decide +kernel
theorem dX5_cardsInTwoLines_48 : decode cX5_cardsInTwoLines 48 = .ok (.aaload, 1) := by decide +kernel
theorem dX5_cardsInTwoLines_49 : decode cX5_cardsInTwoLines 49 = .ok (.astore 7, 2) := by decide +kernel
theorem dX5_cardsInTwoLines_51 : decode cX5_cardsInTwoLines 51 = .ok (.iload_n 3, 1) := by decide +kernel
theorem dX5_cardsInTwoLines_52 : decode cX5_cardsInTwoLines 52 = .ok (.aload 7, 2) := by decide +kernel
theorem dX5_cardsInTwoLines_54 : decode cX5_cardsInTwoLines 54 = .ok (.getfield 122, 3) := by decide +kernel
theorem dX5_cardsInTwoLines_57 : decode cX5_cardsInTwoLines 57 = .ok (.iload_n 2, 1) := by decide +kernel
theorem dX5_cardsInTwoLines_58 : decode cX5_cardsInTwoLines 58 = .ok (.invokevirtual 126, 3) := by decide +kernel
theorem dX5_cardsInTwoLines_61 : decode cX5_cardsInTwoLines 61 = .ok (.iconst (-1), 1) := by decide +kernel
theorem dX5_cardsInTwoLines_62 : decode cX5_cardsInTwoLines 62 = .ok (.if_icmp .eq 7, 3) := by decide +kernel
theorem dX5_cardsInTwoLines_65 : decode cX5_cardsInTwoLines 65 = .ok (.iconst 1, 1) := by decide +kernel
theorem dX5_cardsInTwoLines_66 : decode cX5_cardsInTwoLines 66 = .ok (.goto 4, 3) := by decide +kernel
theorem dX5_cardsInTwoLines_69 : decode cX5_cardsInTwoLines 69 = .ok (.iconst 0, 1) := by decide +kernel
theorem dX5_cardsInTwoLines_70 : decode cX5_cardsInTwoLines 70 = .ok (.iadd, 1) := by decide +kernel
theorem dX5_cardsInTwoLines_71 : decode cX5_cardsInTwoLines 71 = .ok (.istore_n 3, 1) := by decide +kernel
theorem dX5_cardsInTwoLines_72 : decode cX5_cardsInTwoLines 72 = .ok (.iload_n 3, 1) := by decide +kernel
theorem dX5_cardsInTwoLines_73 : decode cX5_cardsInTwoLines 73 = .ok (.aload 7, 2) := by decide +kernel
theorem dX5_cardsInTwoLines_75 : decode cX5_cardsInTwoLines 75 = .ok (.getfield 131, 3) := by decide +kernel
theorem dX5_cardsInTwoLines_78 : decode cX5_cardsInTwoLines 78 = .ok (.iload_n 2, 1) := by decide +kernel
theorem dX5_cardsInTwoLines_79 : decode cX5_cardsInTwoLines 79 = .ok (.invokevirtual 126, 3) := by decide +kernel
theorem dX5_cardsInTwoLines_82 : decode cX5_cardsInTwoLines 82 = .ok (.iconst (-1), 1) := by decide +kernel
theorem dX5_cardsInTwoLines_83 : decode cX5_cardsInTwoLines 83 = .ok (.if_icmp .eq 7, 3) := by decide +kernel
theorem dX5_cardsInTwoLines_86 : decode cX5_cardsInTwoLines 86 = .ok (.iconst 1, 1) := by decide +kernel
theorem dX5_cardsInTwoLines_87 : decode cX5_cardsInTwoLines 87 = .ok (.goto 4, 3) := by decide +kernel
theorem dX5_cardsInTwoLines_90 : decode cX5_cardsInTwoLines 90 = .ok (.iconst 0, 1) := by decide +kernel
theorem dX5_cardsInTwoLines_91 : decode cX5_cardsInTwoLines 91 = .ok (.iadd, 1) := by decide +kernel
theorem dX5_cardsInTwoLines_92 : decode cX5_cardsInTwoLines 92 = .ok (.istore_n 3, 1) := by decide +kernel
theorem dX5_cardsInTwoLines_93 : decode cX5_cardsInTwoLines 93 = .ok (.iinc 6 1, 3) := by decide +kernel
theorem dX5_cardsInTwoLines_96 : decode cX5_cardsInTwoLines 96 = .ok (.goto (-59), 3) := by decide +kernel
theorem dX5_cardsInTwoLines_99 : decode cX5_cardsInTwoLines 99 = .ok (.iload_n 3, 1) := by decide +kernel
theorem dX5_cardsInTwoLines_100 : decode cX5_cardsInTwoLines 100 = .ok (.iconst 1, 1) := by decide +kernel
theorem dX5_cardsInTwoLines_101 : decode cX5_cardsInTwoLines 101 = .ok (.if_icmp .le 6, 3) := by decide +kernel
theorem dX5_cardsInTwoLines_104 : decode cX5_cardsInTwoLines 104 = .ok (.iinc 1 1, 3) := by decide +kernel
theorem dX5_cardsInTwoLines_107 : decode cX5_cardsInTwoLines 107 = .ok (.iinc 2 1, 3) := by decide +kernel
theorem dX5_cardsInTwoLines_110 : decode cX5_cardsInTwoLines 110 = .ok (.goto (-106), 3) := by decide +kernel
theorem dX5_cardsInTwoLines_113 : decode cX5_cardsInTwoLines 113 = .ok (.iload_n 1, 1) := by decide +kernel
theorem dX5_cardsInTwoLines_114 : decode cX5_cardsInTwoLines 114 = .ok (.ireturn, 1) := by decide +kernel
theorem dX5_peopleNotServed_0 : decode cX5_peopleNotServed 0 = .ok (.iconst 0, 1) := by decide +kernel
theorem dX5_peopleNotServed_1 : decode cX5_peopleNotServed 1 = .ok (.istore_n 1, 1) := by decide +kernel
theorem dX5_peopleNotServed_2 : decode cX5_peopleNotServed 2 = .ok (.aload_n 0, 1) := by decide +kernel
theorem dX5_peopleNotServed_3 : decode cX5_peopleNotServed 3 = .ok (.getfield 11, 3) := by decide +kernel
theorem dX5_peopleNotServed_6 : decode cX5_peopleNotServed 6 = .ok (.astore_n 2, 1) := by decide +kernel
theorem dX5_peopleNotServed_7 : decode cX5_peopleNotServed 7 = .ok (.aload_n 2, 1) := by decide +kernel
theorem dX5_peopleNotServed_8 : decode cX5_peopleNotServed 8 = .ok (.arraylength, 1) := by decide +kernel
theorem dX5_peopleNotServed_9 : decode cX5_peopleNotServed 9 = .ok (.istore_n 3, 1) := by decide +kernel
theorem dX5_peopleNotServed_10 : decode cX5_peopleNotServed 10 = .ok (.iconst 0, 1) := by decide +kernel
theorem dX5_peopleNotServed_11 : decode cX5_peopleNotServed 11 = .ok (.istore 4, 2) := by decide +kernel
theorem dX5_peopleNotServed_13 : decode cX5_peopleNotServed 13 = .ok (.iload 4, 2) := by decide +kernel
theorem dX5_peopleNotServed_15 : decode cX5_peopleNotServed 15 = .ok (.iload_n 3, 1) := by decide +kernel
theorem dX5_peopleNotServed_16 : decode cX5_peopleNotServed 16 = .ok (.if_icmp .ge 28, 3) := by decide +kernel
theorem dX5_peopleNotServed_19 : decode cX5_peopleNotServed 19 = .ok (.aload_n 2, 1) := by decide +kernel
theorem dX5_peopleNotServed_20 : decode cX5_peopleNotServed 20 = .ok (.iload 4, 2) := by decide +kernel
theorem dX5_peopleNotServed_22 : decode cX5_peopleNotServed 22 = .ok (.aaload, 1) := by decide +kernel
theorem dX5_peopleNotServed_23 : decode cX5_peopleNotServed 23 = .ok (.astore 5, 2) := by decide +kernel
theorem dX5_peopleNotServed_25 : decode cX5_peopleNotServed 25 = .ok (.iload_n 1, 1) := by decide +kernel
theorem dX5_peopleNotServed_26 : decode cX5_peopleNotServed 26 = .ok (.aload 5, 2) := by decide +kernel
theorem dX5_peopleNotServed_28 : decode cX5_peopleNotServed 28 = .ok (.aload 5, 2) := by decide +kernel
theorem dX5_peopleNotServed_30 : decode cX5_peopleNotServed 30 = .ok (.getfield 75, 3) := by decide +kernel
theorem dX5_peopleNotServed_33 : decode cX5_peopleNotServed 33 = .ok (.invokevirtual 150, 3) := by decide +kernel
theorem dX5_peopleNotServed_36 : decode cX5_peopleNotServed 36 = .ok (.iadd, 1) := by decide +kernel
theorem dX5_peopleNotServed_37 : decode cX5_peopleNotServed 37 = .ok (.istore_n 1, 1) := by decide +kernel
theorem dX5_peopleNotServed_38 : decode cX5_peopleNotServed 38 = .ok (.iinc 4 1, 3) := by decide +kernel
theorem dX5_peopleNotServed_41 : decode cX5_peopleNotServed 41 = .ok (.goto (-28), 3) := by decide +kernel
theorem dX5_peopleNotServed_44 : decode cX5_peopleNotServed 44 = .ok (.iload_n 1, 1) := by decide +kernel
theorem dX5_peopleNotServed_45 : decode cX5_peopleNotServed 45 = .ok (.ireturn, 1) := by decide +kernel
theorem dX5_gatesAheadOf_0 : decode cX5_gatesAheadOf 0 = .ok (.aload_n 0, 1) := by decide +kernel
theorem dX5_gatesAheadOf_1 : decode cX5_gatesAheadOf 1 = .ok (.iload_n 1, 1) := by decide +kernel
theorem dX5_gatesAheadOf_2 : decode cX5_gatesAheadOf 2 = .ok (.invokevirtual 134, 3) := by decide +kernel
theorem dX5_gatesAheadOf_5 : decode cX5_gatesAheadOf 5 = .ok (.ifCond .ne 5, 3) := by decide +kernel
theorem dX5_gatesAheadOf_8 : decode cX5_gatesAheadOf 8 = .ok (.iconst (-1), 1) := by decide +kernel
theorem dX5_gatesAheadOf_9 : decode cX5_gatesAheadOf 9 = .ok (.ireturn, 1) := by decide +kernel
theorem dX5_gatesAheadOf_10 : decode cX5_gatesAheadOf 10 = .ok (.aload_n 0, 1) := by decide +kernel
theorem dX5_gatesAheadOf_11 : decode cX5_gatesAheadOf 11 = .ok (.getfield 11, 3) := by decide +kernel
theorem dX5_gatesAheadOf_14 : decode cX5_gatesAheadOf 14 = .ok (.iload_n 1, 1) := by decide +kernel
theorem dX5_gatesAheadOf_15 : decode cX5_gatesAheadOf 15 = .ok (.aaload, 1) := by decide +kernel
theorem dX5_gatesAheadOf_16 : decode cX5_gatesAheadOf 16 = .ok (.invokevirtual 141, 3) := by decide +kernel
theorem dX5_gatesAheadOf_19 : decode cX5_gatesAheadOf 19 = .ok (.istore_n 2, 1) := by decide +kernel
theorem dX5_gatesAheadOf_20 : decode cX5_gatesAheadOf 20 = .ok (.iconst 0, 1) := by decide +kernel
theorem dX5_gatesAheadOf_21 : decode cX5_gatesAheadOf 21 = .ok (.istore_n 3, 1) := by decide +kernel
theorem dX5_gatesAheadOf_22 : decode cX5_gatesAheadOf 22 = .ok (.iconst 0, 1) := by decide +kernel
theorem dX5_gatesAheadOf_23 : decode cX5_gatesAheadOf 23 = .ok (.istore 4, 2) := by decide +kernel
theorem dX5_gatesAheadOf_25 : decode cX5_gatesAheadOf 25 = .ok (.iload 4, 2) := by decide +kernel
theorem dX5_gatesAheadOf_27 : decode cX5_gatesAheadOf 27 = .ok (.aload_n 0, 1) := by decide +kernel
theorem dX5_gatesAheadOf_28 : decode cX5_gatesAheadOf 28 = .ok (.getfield 39, 3) := by decide +kernel
theorem dX5_gatesAheadOf_31 : decode cX5_gatesAheadOf 31 = .ok (.if_icmp .ge 52, 3) := by decide +kernel
theorem dX5_gatesAheadOf_34 : decode cX5_gatesAheadOf 34 = .ok (.iload 4, 2) := by decide +kernel
theorem dX5_gatesAheadOf_36 : decode cX5_gatesAheadOf 36 = .ok (.aload_n 0, 1) := by decide +kernel
theorem dX5_gatesAheadOf_37 : decode cX5_gatesAheadOf 37 = .ok (.getfield 11, 3) := by decide +kernel
theorem dX5_gatesAheadOf_40 : decode cX5_gatesAheadOf 40 = .ok (.arraylength, 1) := by decide +kernel
theorem dX5_gatesAheadOf_41 : decode cX5_gatesAheadOf 41 = .ok (.if_icmp .ge 42, 3) := by decide +kernel
theorem dX5_gatesAheadOf_44 : decode cX5_gatesAheadOf 44 = .ok (.aload_n 0, 1) := by decide +kernel
theorem dX5_gatesAheadOf_45 : decode cX5_gatesAheadOf 45 = .ok (.getfield 11, 3) := by decide +kernel
theorem dX5_gatesAheadOf_48 : decode cX5_gatesAheadOf 48 = .ok (.iload 4, 2) := by decide +kernel
theorem dX5_gatesAheadOf_50 : decode cX5_gatesAheadOf 50 = .ok (.aaload, 1) := by decide +kernel
theorem dX5_gatesAheadOf_51 : decode cX5_gatesAheadOf 51 = .ok (.invokevirtual 141, 3) := by decide +kernel
theorem dX5_gatesAheadOf_54 : decode cX5_gatesAheadOf 54 = .ok (.istore 5, 2) := by decide +kernel
theorem dX5_gatesAheadOf_56 : decode cX5_gatesAheadOf 56 = .ok (.iload 5, 2) := by decide +kernel
theorem dX5_gatesAheadOf_58 : decode cX5_gatesAheadOf 58 = .ok (.iload_n 2, 1) := by decide +kernel
theorem dX5_gatesAheadOf_59 : decode cX5_gatesAheadOf 59 = .ok (.if_icmp .gt 15, 3) := by decide +kernel
theorem dX5_gatesAheadOf_62 : decode cX5_gatesAheadOf 62 = .ok (.iload 5, 2) := by decide +kernel
theorem dX5_gatesAheadOf_64 : decode cX5_gatesAheadOf 64 = .ok (.iload_n 2, 1) := by decide +kernel
theorem dX5_gatesAheadOf_65 : decode cX5_gatesAheadOf 65 = .ok (.if_icmp .ne 12, 3) := by decide +kernel
theorem dX5_gatesAheadOf_68 : decode cX5_gatesAheadOf 68 = .ok (.iload 4, 2) := by decide +kernel
theorem dX5_gatesAheadOf_70 : decode cX5_gatesAheadOf 70 = .ok (.iload_n 1, 1) := by decide +kernel
theorem dX5_gatesAheadOf_71 : decode cX5_gatesAheadOf 71 = .ok (.if_icmp .ge 6, 3) := by decide +kernel
theorem dX5_gatesAheadOf_74 : decode cX5_gatesAheadOf 74 = .ok (.iinc 3 1, 3) := by decide +kernel
theorem dX5_gatesAheadOf_77 : decode cX5_gatesAheadOf 77 = .ok (.iinc 4 1, 3) := by decide +kernel
theorem dX5_gatesAheadOf_80 : decode cX5_gatesAheadOf 80 = .ok (.goto (-55), 3) := by decide +kernel
theorem dX5_gatesAheadOf_83 : decode cX5_gatesAheadOf 83 = .ok (.iload_n 3, 1) := by decide +kernel
theorem dX5_gatesAheadOf_84 : decode cX5_gatesAheadOf 84 = .ok (.ireturn, 1) := by decide +kernel
theorem dX5_reasonNotToJoin_0 : decode cX5_reasonNotToJoin 0 = .ok (.aload_n 1, 1) := by decide +kernel
theorem dX5_reasonNotToJoin_1 : decode cX5_reasonNotToJoin 1 = .ok (.iload_n 2, 1) := by decide +kernel
theorem dX5_reasonNotToJoin_2 : decode cX5_reasonNotToJoin 2 = .ok (.invokevirtual 153, 3) := by decide +kernel
theorem dX5_reasonNotToJoin_5 : decode cX5_reasonNotToJoin 5 = .ok (.ifCond .ne 5, 3) := by decide +kernel
theorem dX5_reasonNotToJoin_8 : decode cX5_reasonNotToJoin 8 = .ok (.iconst 1, 1) := by decide +kernel
theorem dX5_reasonNotToJoin_9 : decode cX5_reasonNotToJoin 9 = .ok (.ireturn, 1) := by decide +kernel
theorem dX5_reasonNotToJoin_10 : decode cX5_reasonNotToJoin 10 = .ok (.aload_n 1, 1) := by decide +kernel
theorem dX5_reasonNotToJoin_11 : decode cX5_reasonNotToJoin 11 = .ok (.iload_n 2, 1) := by decide +kernel
theorem dX5_reasonNotToJoin_12 : decode cX5_reasonNotToJoin 12 = .ok (.invokevirtual 137, 3) := by decide +kernel
theorem dX5_reasonNotToJoin_15 : decode cX5_reasonNotToJoin 15 = .ok (.invokevirtual 156, 3) := by decide +kernel
theorem dX5_reasonNotToJoin_18 : decode cX5_reasonNotToJoin 18 = .ok (.ifCond .eq 5, 3) := by decide +kernel
theorem dX5_reasonNotToJoin_21 : decode cX5_reasonNotToJoin 21 = .ok (.iconst 2, 1) := by decide +kernel
theorem dX5_reasonNotToJoin_22 : decode cX5_reasonNotToJoin 22 = .ok (.ireturn, 1) := by decide +kernel
theorem dX5_reasonNotToJoin_23 : decode cX5_reasonNotToJoin 23 = .ok (.iload_n 3, 1) := by decide +kernel
theorem dX5_reasonNotToJoin_24 : decode cX5_reasonNotToJoin 24 = .ok (.iconst (-1), 1) := by decide +kernel
theorem dX5_reasonNotToJoin_25 : decode cX5_reasonNotToJoin 25 = .ok (.if_icmp .eq 14, 3) := by decide +kernel
theorem dX5_reasonNotToJoin_28 : decode cX5_reasonNotToJoin 28 = .ok (.aload_n 0, 1) := by decide +kernel
theorem dX5_reasonNotToJoin_29 : decode cX5_reasonNotToJoin 29 = .ok (.iload_n 3, 1) := by decide +kernel
theorem dX5_reasonNotToJoin_30 : decode cX5_reasonNotToJoin 30 = .ok (.invokevirtual 109, 3) := by decide +kernel
theorem dX5_reasonNotToJoin_33 : decode cX5_reasonNotToJoin 33 = .ok (.iconst (-1), 1) := by decide +kernel
theorem dX5_reasonNotToJoin_34 : decode cX5_reasonNotToJoin 34 = .ok (.if_icmp .eq 5, 3) := by decide +kernel
theorem dX5_reasonNotToJoin_37 : decode cX5_reasonNotToJoin 37 = .ok (.iconst 3, 1) := by decide +kernel
theorem dX5_reasonNotToJoin_38 : decode cX5_reasonNotToJoin 38 = .ok (.ireturn, 1) := by decide +kernel
theorem dX5_reasonNotToJoin_39 : decode cX5_reasonNotToJoin 39 = .ok (.iload_n 2, 1) := by decide +kernel
theorem dX5_reasonNotToJoin_40 : decode cX5_reasonNotToJoin 40 = .ok (.iconst 1, 1) := by decide +kernel
theorem dX5_reasonNotToJoin_41 : decode cX5_reasonNotToJoin 41 = .ok (.if_icmp .ne 16, 3) := by decide +kernel
theorem dX5_reasonNotToJoin_44 : decode cX5_reasonNotToJoin 44 = .ok (.aload_n 0, 1) := by decide +kernel
theorem dX5_reasonNotToJoin_45 : decode cX5_reasonNotToJoin 45 = .ok (.invokevirtual 159, 3) := by decide +kernel
theorem dX5_reasonNotToJoin_48 : decode cX5_reasonNotToJoin 48 = .ok (.aload_n 0, 1) := by decide +kernel
theorem dX5_reasonNotToJoin_49 : decode cX5_reasonNotToJoin 49 = .ok (.getfield 51, 3) := by decide +kernel
theorem dX5_reasonNotToJoin_52 : decode cX5_reasonNotToJoin 52 = .ok (.if_icmp .lt 5, 3) := by decide +kernel
theorem dX5_reasonNotToJoin_55 : decode cX5_reasonNotToJoin 55 = .ok (.iconst 4, 1) := by decide +kernel
theorem dX5_reasonNotToJoin_56 : decode cX5_reasonNotToJoin 56 = .ok (.ireturn, 1) := by decide +kernel
theorem dX5_reasonNotToJoin_57 : decode cX5_reasonNotToJoin 57 = .ok (.iconst 0, 1) := by decide +kernel
theorem dX5_reasonNotToJoin_58 : decode cX5_reasonNotToJoin 58 = .ok (.ireturn, 1) := by decide +kernel
theorem dX5_turnedKeys_0 : decode cX5_turnedKeys 0 = .ok (.aload_n 0, 1) := by decide +kernel
theorem dX5_turnedKeys_1 : decode cX5_turnedKeys 1 = .ok (.getfield 45, 3) := by decide +kernel
theorem dX5_turnedKeys_4 : decode cX5_turnedKeys 4 = .ok (.invokestatic 162, 3) := by decide +kernel
theorem dX5_turnedKeys_7 : decode cX5_turnedKeys 7 = .ok (.ireturn, 1) := by decide +kernel
theorem dX5_isPanic_0 : decode cX5_isPanic 0 = .ok (.aload_n 0, 1) := by decide +kernel
theorem dX5_isPanic_1 : decode cX5_isPanic 1 = .ok (.invokevirtual 92, 3) := by decide +kernel
theorem dX5_isPanic_4 : decode cX5_isPanic 4 = .ok (.iconst 2, 1) := by decide +kernel
theorem dX5_isPanic_5 : decode cX5_isPanic 5 = .ok (.if_icmp .lt 7, 3) := by decide +kernel
theorem dX5_isPanic_8 : decode cX5_isPanic 8 = .ok (.iconst 1, 1) := by decide +kernel
theorem dX5_isPanic_9 : decode cX5_isPanic 9 = .ok (.goto 4, 3) := by decide +kernel
theorem dX5_isPanic_12 : decode cX5_isPanic 12 = .ok (.iconst 0, 1) := by decide +kernel
theorem dX5_isPanic_13 : decode cX5_isPanic 13 = .ok (.ireturn, 1) := by decide +kernel
theorem dX5_turnKey_0 : decode cX5_turnKey 0 = .ok (.aload_n 0, 1) := by decide +kernel
theorem dX5_turnKey_1 : decode cX5_turnKey 1 = .ok (.aload_n 0, 1) := by decide +kernel
theorem dX5_turnKey_2 : decode cX5_turnKey 2 = .ok (.getfield 45, 3) := by decide +kernel
theorem dX5_turnKey_5 : decode cX5_turnKey 5 = .ok (.iconst 1, 1) := by decide +kernel
theorem dX5_turnKey_6 : decode cX5_turnKey 6 = .ok (.iload_n 1, 1) := by decide +kernel
theorem dX5_turnKey_7 : decode cX5_turnKey 7 = .ok (.ishl, 1) := by decide +kernel
theorem dX5_turnKey_8 : decode cX5_turnKey 8 = .ok (.ixor, 1) := by decide +kernel
theorem dX5_turnKey_9 : decode cX5_turnKey 9 = .ok (.putfield 45, 3) := by decide +kernel
theorem dX5_turnKey_12 : decode cX5_turnKey 12 = .ok (.aload_n 0, 1) := by decide +kernel
theorem dX5_turnKey_13 : decode cX5_turnKey 13 = .ok (.invokevirtual 88, 3) := by decide +kernel
theorem dX5_turnKey_16 : decode cX5_turnKey 16 = .ok (.ifCond .eq 37, 3) := by decide +kernel
theorem dX5_turnKey_19 : decode cX5_turnKey 19 = .ok (.aload_n 0, 1) := by decide +kernel
theorem dX5_turnKey_20 : decode cX5_turnKey 20 = .ok (.getfield 11, 3) := by decide +kernel
theorem dX5_turnKey_23 : decode cX5_turnKey 23 = .ok (.astore_n 2, 1) := by decide +kernel
theorem dX5_turnKey_24 : decode cX5_turnKey 24 = .ok (.aload_n 2, 1) := by decide +kernel
theorem dX5_turnKey_25 : decode cX5_turnKey 25 = .ok (.arraylength, 1) := by decide +kernel
theorem dX5_turnKey_26 : decode cX5_turnKey 26 = .ok (.istore_n 3, 1) := by decide +kernel
theorem dX5_turnKey_27 : decode cX5_turnKey 27 = .ok (.iconst 0, 1) := by decide +kernel
theorem dX5_turnKey_28 : decode cX5_turnKey 28 = .ok (.istore 4, 2) := by decide +kernel
theorem dX5_turnKey_30 : decode cX5_turnKey 30 = .ok (.iload 4, 2) := by decide +kernel
theorem dX5_turnKey_32 : decode cX5_turnKey 32 = .ok (.iload_n 3, 1) := by decide +kernel
theorem dX5_turnKey_33 : decode cX5_turnKey 33 = .ok (.if_icmp .ge 20, 3) := by decide +kernel
theorem dX5_turnKey_36 : decode cX5_turnKey 36 = .ok (.aload_n 2, 1) := by decide +kernel
theorem dX5_turnKey_37 : decode cX5_turnKey 37 = .ok (.iload 4, 2) := by decide +kernel
theorem dX5_turnKey_39 : decode cX5_turnKey 39 = .ok (.aaload, 1) := by decide +kernel
theorem dX5_turnKey_40 : decode cX5_turnKey 40 = .ok (.astore 5, 2) := by decide +kernel
theorem dX5_turnKey_42 : decode cX5_turnKey 42 = .ok (.aload 5, 2) := by decide +kernel
theorem dX5_turnKey_44 : decode cX5_turnKey 44 = .ok (.invokevirtual 167, 3) := by decide +kernel
theorem dX5_turnKey_47 : decode cX5_turnKey 47 = .ok (.iinc 4 1, 3) := by decide +kernel
theorem dX5_turnKey_50 : decode cX5_turnKey 50 = .ok (.goto (-20), 3) := by decide +kernel
theorem dX5_turnKey_53 : decode cX5_turnKey 53 = .ok (.return_, 1) := by decide +kernel
theorem dX5_passTicks_0 : decode cX5_passTicks 0 = .ok (.iconst 0, 1) := by decide +kernel
theorem dX5_passTicks_1 : decode cX5_passTicks 1 = .ok (.istore_n 2, 1) := by decide +kernel
theorem dX5_passTicks_2 : decode cX5_passTicks 2 = .ok (.iload_n 2, 1) := by decide +kernel
theorem dX5_passTicks_3 : decode cX5_passTicks 3 = .ok (.iload_n 1, 1) := by decide +kernel
theorem dX5_passTicks_4 : decode cX5_passTicks 4 = .ok (.if_icmp .ge 92, 3) := by decide +kernel
theorem dX5_passTicks_7 : decode cX5_passTicks 7 = .ok (.aload_n 0, 1) := by decide +kernel
theorem dX5_passTicks_8 : decode cX5_passTicks 8 = .ok (.getfield 11, 3) := by decide +kernel
theorem dX5_passTicks_11 : decode cX5_passTicks 11 = .ok (.astore_n 3, 1) := by decide +kernel
theorem dX5_passTicks_12 : decode cX5_passTicks 12 = .ok (.aload_n 3, 1) := by decide +kernel
theorem dX5_passTicks_13 : decode cX5_passTicks 13 = .ok (.arraylength, 1) := by decide +kernel
theorem dX5_passTicks_14 : decode cX5_passTicks 14 = .ok (.istore 4, 2) := by decide +kernel
theorem dX5_passTicks_16 : decode cX5_passTicks 16 = .ok (.iconst 0, 1) := by decide +kernel
theorem dX5_passTicks_17 : decode cX5_passTicks 17 = .ok (.istore 5, 2) := by decide +kernel
theorem dX5_passTicks_19 : decode cX5_passTicks 19 = .ok (.iload 5, 2) := by decide +kernel
theorem dX5_passTicks_21 : decode cX5_passTicks 21 = .ok (.iload 4, 2) := by decide +kernel
theorem dX5_passTicks_23 : decode cX5_passTicks 23 = .ok (.if_icmp .ge 57, 3) := by decide +kernel
theorem dX5_passTicks_26 : decode cX5_passTicks 26 = .ok (.aload_n 3, 1) := by decide +kernel
theorem dX5_passTicks_27 : decode cX5_passTicks 27 = .ok (.iload 5, 2) := by decide +kernel
theorem dX5_passTicks_29 : decode cX5_passTicks 29 = .ok (.aaload, 1) := by decide +kernel
theorem dX5_passTicks_30 : decode cX5_passTicks 30 = .ok (.astore 6, 2) := by decide +kernel
theorem dX5_passTicks_32 : decode cX5_passTicks 32 = .ok (.aload_n 0, 1) := by decide +kernel
theorem dX5_passTicks_33 : decode cX5_passTicks 33 = .ok (.invokevirtual 88, 3) := by decide +kernel
theorem dX5_passTicks_36 : decode cX5_passTicks 36 = .ok (.ifCond .eq 15, 3) := by decide +kernel
theorem dX5_passTicks_39 : decode cX5_passTicks 39 = .ok (.aload_n 0, 1) := by decide +kernel
theorem dX5_passTicks_40 : decode cX5_passTicks 40 = .ok (.aload 6, 2) := by decide +kernel
theorem dX5_passTicks_42 : decode cX5_passTicks 42 = .ok (.getfield 131, 3) := by decide +kernel
theorem dX5_passTicks_45 : decode cX5_passTicks 45 = .ok (.invokevirtual 170, 3) := by decide +kernel
theorem dX5_passTicks_48 : decode cX5_passTicks 48 = .ok (.goto 26, 3) := by decide +kernel
theorem dX5_passTicks_51 : decode cX5_passTicks 51 = .ok (.aload 6, 2) := by decide +kernel
theorem dX5_passTicks_53 : decode cX5_passTicks 53 = .ok (.invokevirtual 147, 3) := by decide +kernel
theorem dX5_passTicks_56 : decode cX5_passTicks 56 = .ok (.ifCond .eq 12, 3) := by decide +kernel
theorem dX5_passTicks_59 : decode cX5_passTicks 59 = .ok (.aload_n 0, 1) := by decide +kernel
theorem dX5_passTicks_60 : decode cX5_passTicks 60 = .ok (.aload 6, 2) := by decide +kernel
theorem dX5_passTicks_62 : decode cX5_passTicks 62 = .ok (.invokevirtual 174, 3) := by decide +kernel
theorem dX5_passTicks_65 : decode cX5_passTicks 65 = .ok (.goto 9, 3) := by decide +kernel
theorem dX5_passTicks_68 : decode cX5_passTicks 68 = .ok (.aload_n 0, 1) := by decide +kernel
theorem dX5_passTicks_69 : decode cX5_passTicks 69 = .ok (.aload 6, 2) := by decide +kernel
theorem dX5_passTicks_71 : decode cX5_passTicks 71 = .ok (.invokevirtual 177, 3) := by decide +kernel
theorem dX5_passTicks_74 : decode cX5_passTicks 74 = .ok (.iinc 5 1, 3) := by decide +kernel
theorem dX5_passTicks_77 : decode cX5_passTicks 77 = .ok (.goto (-58), 3) := by decide +kernel
theorem dX5_passTicks_80 : decode cX5_passTicks 80 = .ok (.aload_n 0, 1) := by decide +kernel
theorem dX5_passTicks_81 : decode cX5_passTicks 81 = .ok (.dup, 1) := by decide +kernel
theorem dX5_passTicks_82 : decode cX5_passTicks 82 = .ok (.getfield 48, 3) := by decide +kernel
theorem dX5_passTicks_85 : decode cX5_passTicks 85 = .ok (.iconst 1, 1) := by decide +kernel
theorem dX5_passTicks_86 : decode cX5_passTicks 86 = .ok (.iadd, 1) := by decide +kernel
theorem dX5_passTicks_87 : decode cX5_passTicks 87 = .ok (.putfield 48, 3) := by decide +kernel
theorem dX5_passTicks_90 : decode cX5_passTicks 90 = .ok (.iinc 2 1, 3) := by decide +kernel
theorem dX5_passTicks_93 : decode cX5_passTicks 93 = .ok (.goto (-91), 3) := by decide +kernel
theorem dX5_passTicks_96 : decode cX5_passTicks 96 = .ok (.return_, 1) := by decide +kernel
theorem dX5_letOutInPanic_0 : decode cX5_letOutInPanic 0 = .ok (.iconst 0, 1) := by decide +kernel
theorem dX5_letOutInPanic_1 : decode cX5_letOutInPanic 1 = .ok (.istore_n 2, 1) := by decide +kernel
theorem dX5_letOutInPanic_2 : decode cX5_letOutInPanic 2 = .ok (.iload_n 2, 1) := by decide +kernel
theorem dX5_letOutInPanic_3 : decode cX5_letOutInPanic 3 = .ok (.aload_n 0, 1) := by decide +kernel
theorem dX5_letOutInPanic_4 : decode cX5_letOutInPanic 4 = .ok (.getfield 27, 3) := by decide +kernel
theorem dX5_letOutInPanic_7 : decode cX5_letOutInPanic 7 = .ok (.if_icmp .ge 36, 3) := by decide +kernel
theorem dX5_letOutInPanic_10 : decode cX5_letOutInPanic 10 = .ok (.aload_n 1, 1) := by decide +kernel
theorem dX5_letOutInPanic_11 : decode cX5_letOutInPanic 11 = .ok (.getfield 144, 3) := by decide +kernel
theorem dX5_letOutInPanic_14 : decode cX5_letOutInPanic 14 = .ok (.ifCond .le 29, 3) := by decide +kernel
theorem dX5_letOutInPanic_17 : decode cX5_letOutInPanic 17 = .ok (.aload_n 0, 1) := by decide +kernel
theorem dX5_letOutInPanic_18 : decode cX5_letOutInPanic 18 = .ok (.aload_n 1, 1) := by decide +kernel
theorem dX5_letOutInPanic_19 : decode cX5_letOutInPanic 19 = .ok (.iconst 0, 1) := by decide +kernel
theorem dX5_letOutInPanic_20 : decode cX5_letOutInPanic 20 = .ok (.invokevirtual 180, 3) := by decide +kernel
theorem dX5_letOutInPanic_23 : decode cX5_letOutInPanic 23 = .ok (.iconst 1, 1) := by decide +kernel
theorem dX5_letOutInPanic_24 : decode cX5_letOutInPanic 24 = .ok (.invokevirtual 183, 3) := by decide +kernel
theorem dX5_letOutInPanic_27 : decode cX5_letOutInPanic 27 = .ok (.aload_n 0, 1) := by decide +kernel
theorem dX5_letOutInPanic_28 : decode cX5_letOutInPanic 28 = .ok (.dup, 1) := by decide +kernel
theorem dX5_letOutInPanic_29 : decode cX5_letOutInPanic 29 = .ok (.getfield 72, 3) := by decide +kernel
theorem dX5_letOutInPanic_32 : decode cX5_letOutInPanic 32 = .ok (.iconst 1, 1) := by decide +kernel
theorem dX5_letOutInPanic_33 : decode cX5_letOutInPanic 33 = .ok (.iadd, 1) := by decide +kernel
theorem dX5_letOutInPanic_34 : decode cX5_letOutInPanic 34 = .ok (.putfield 72, 3) := by decide +kernel
theorem dX5_letOutInPanic_37 : decode cX5_letOutInPanic 37 = .ok (.iinc 2 1, 3) := by decide +kernel
theorem dX5_letOutInPanic_40 : decode cX5_letOutInPanic 40 = .ok (.goto (-38), 3) := by decide +kernel
theorem dX5_letOutInPanic_43 : decode cX5_letOutInPanic 43 = .ok (.return_, 1) := by decide +kernel
theorem dX5_letThroughPaddles_0 : decode cX5_letThroughPaddles 0 = .ok (.aload_n 1, 1) := by decide +kernel
theorem dX5_letThroughPaddles_1 : decode cX5_letThroughPaddles 1 = .ok (.aload_n 1, 1) := by decide +kernel
theorem dX5_letThroughPaddles_2 : decode cX5_letThroughPaddles 2 = .ok (.getfield 187, 3) := by decide +kernel
theorem dX5_letThroughPaddles_5 : decode cX5_letThroughPaddles 5 = .ok (.invokevirtual 137, 3) := by decide +kernel
theorem dX5_letThroughPaddles_8 : decode cX5_letThroughPaddles 8 = .ok (.astore_n 2, 1) := by decide +kernel
theorem dX5_letThroughPaddles_9 : decode cX5_letThroughPaddles 9 = .ok (.aload_n 1, 1) := by decide +kernel
theorem dX5_letThroughPaddles_10 : decode cX5_letThroughPaddles 10 = .ok (.getfield 190, 3) := by decide +kernel
theorem dX5_letThroughPaddles_13 : decode cX5_letThroughPaddles 13 = .ok (.ifCond .eq 24, 3) := by decide +kernel
theorem dX5_letThroughPaddles_16 : decode cX5_letThroughPaddles 16 = .ok (.aload_n 1, 1) := by decide +kernel
theorem dX5_letThroughPaddles_17 : decode cX5_letThroughPaddles 17 = .ok (.iconst 0, 1) := by decide +kernel
theorem dX5_letThroughPaddles_18 : decode cX5_letThroughPaddles 18 = .ok (.putfield 190, 3) := by decide +kernel
theorem dX5_letThroughPaddles_21 : decode cX5_letThroughPaddles 21 = .ok (.aload_n 0, 1) := by decide +kernel
theorem dX5_letThroughPaddles_22 : decode cX5_letThroughPaddles 22 = .ok (.aload_n 2, 1) := by decide +kernel
theorem dX5_letThroughPaddles_23 : decode cX5_letThroughPaddles 23 = .ok (.iconst 0, 1) := by decide +kernel
theorem dX5_letThroughPaddles_24 : decode cX5_letThroughPaddles 24 = .ok (.invokevirtual 180, 3) := by decide +kernel
theorem dX5_letThroughPaddles_27 : decode cX5_letThroughPaddles 27 = .ok (.aload_n 1, 1) := by decide +kernel
theorem dX5_letThroughPaddles_28 : decode cX5_letThroughPaddles 28 = .ok (.getfield 187, 3) := by decide +kernel
theorem dX5_letThroughPaddles_31 : decode cX5_letThroughPaddles 31 = .ok (.invokevirtual 183, 3) := by decide +kernel
theorem dX5_letThroughPaddles_34 : decode cX5_letThroughPaddles 34 = .ok (.goto 43, 3) := by decide +kernel
theorem dX5_letThroughPaddles_37 : decode cX5_letThroughPaddles 37 = .ok (.aload_n 2, 1) := by decide +kernel
theorem dX5_letThroughPaddles_38 : decode cX5_letThroughPaddles 38 = .ok (.invokevirtual 193, 3) := by decide +kernel
theorem dX5_letThroughPaddles_41 : decode cX5_letThroughPaddles 41 = .ok (.ifCond .eq 36, 3) := by decide +kernel
theorem dX5_letThroughPaddles_44 : decode cX5_letThroughPaddles 44 = .ok (.aload_n 0, 1) := by decide +kernel
theorem dX5_letThroughPaddles_45 : decode cX5_letThroughPaddles 45 = .ok (.aload_n 2, 1) := by decide +kernel
theorem dX5_letThroughPaddles_46 : decode cX5_letThroughPaddles 46 = .ok (.iconst 0, 1) := by decide +kernel
theorem dX5_letThroughPaddles_47 : decode cX5_letThroughPaddles 47 = .ok (.invokevirtual 180, 3) := by decide +kernel
theorem dX5_letThroughPaddles_50 : decode cX5_letThroughPaddles 50 = .ok (.aload_n 1, 1) := by decide +kernel
theorem dX5_letThroughPaddles_51 : decode cX5_letThroughPaddles 51 = .ok (.getfield 187, 3) := by decide +kernel
theorem dX5_letThroughPaddles_54 : decode cX5_letThroughPaddles 54 = .ok (.invokevirtual 183, 3) := by decide +kernel
theorem dX5_letThroughPaddles_57 : decode cX5_letThroughPaddles 57 = .ok (.aload_n 0, 1) := by decide +kernel
theorem dX5_letThroughPaddles_58 : decode cX5_letThroughPaddles 58 = .ok (.dup, 1) := by decide +kernel
theorem dX5_letThroughPaddles_59 : decode cX5_letThroughPaddles 59 = .ok (.getfield 60, 3) := by decide +kernel
theorem dX5_letThroughPaddles_62 : decode cX5_letThroughPaddles 62 = .ok (.iconst 1, 1) := by decide +kernel
theorem dX5_letThroughPaddles_63 : decode cX5_letThroughPaddles 63 = .ok (.iadd, 1) := by decide +kernel
theorem dX5_letThroughPaddles_64 : decode cX5_letThroughPaddles 64 = .ok (.putfield 60, 3) := by decide +kernel
theorem dX5_letThroughPaddles_67 : decode cX5_letThroughPaddles 67 = .ok (.aload_n 1, 1) := by decide +kernel
theorem dX5_letThroughPaddles_68 : decode cX5_letThroughPaddles 68 = .ok (.dup, 1) := by decide +kernel
theorem dX5_letThroughPaddles_69 : decode cX5_letThroughPaddles 69 = .ok (.getfield 196, 3) := by decide +kernel
theorem dX5_letThroughPaddles_72 : decode cX5_letThroughPaddles 72 = .ok (.iconst 1, 1) := by decide +kernel
theorem dX5_letThroughPaddles_73 : decode cX5_letThroughPaddles 73 = .ok (.iadd, 1) := by decide +kernel
theorem dX5_letThroughPaddles_74 : decode cX5_letThroughPaddles 74 = .ok (.putfield 196, 3) := by decide +kernel
theorem dX5_letThroughPaddles_77 : decode cX5_letThroughPaddles 77 = .ok (.aload_n 1, 1) := by decide +kernel
theorem dX5_letThroughPaddles_78 : decode cX5_letThroughPaddles 78 = .ok (.dup, 1) := by decide +kernel
theorem dX5_letThroughPaddles_79 : decode cX5_letThroughPaddles 79 = .ok (.getfield 199, 3) := by decide +kernel
theorem dX5_letThroughPaddles_82 : decode cX5_letThroughPaddles 82 = .ok (.iconst 1, 1) := by decide +kernel
theorem dX5_letThroughPaddles_83 : decode cX5_letThroughPaddles 83 = .ok (.isub, 1) := by decide +kernel
theorem dX5_letThroughPaddles_84 : decode cX5_letThroughPaddles 84 = .ok (.putfield 199, 3) := by decide +kernel
theorem dX5_letThroughPaddles_87 : decode cX5_letThroughPaddles 87 = .ok (.aload_n 1, 1) := by decide +kernel
theorem dX5_letThroughPaddles_88 : decode cX5_letThroughPaddles 88 = .ok (.getfield 199, 3) := by decide +kernel
theorem dX5_letThroughPaddles_91 : decode cX5_letThroughPaddles 91 = .ok (.ifCond .ne 7, 3) := by decide +kernel
theorem dX5_letThroughPaddles_94 : decode cX5_letThroughPaddles 94 = .ok (.aload_n 1, 1) := by decide +kernel
theorem dX5_letThroughPaddles_95 : decode cX5_letThroughPaddles 95 = .ok (.invokevirtual 167, 3) := by decide +kernel
theorem dX5_letThroughPaddles_98 : decode cX5_letThroughPaddles 98 = .ok (.return_, 1) := by decide +kernel
theorem dX5_goThrough_0 : decode cX5_goThrough 0 = .ok (.iload_n 1, 1) := by decide +kernel
theorem dX5_goThrough_1 : decode cX5_goThrough 1 = .ok (.ifCond .lt 22, 3) := by decide +kernel
theorem dX5_goThrough_4 : decode cX5_goThrough 4 = .ok (.iload_n 1, 1) := by decide +kernel
theorem dX5_goThrough_5 : decode cX5_goThrough 5 = .ok (.aload_n 0, 1) := by decide +kernel
theorem dX5_goThrough_6 : decode cX5_goThrough 6 = .ok (.getfield 19, 3) := by decide +kernel
theorem dX5_goThrough_9 : decode cX5_goThrough 9 = .ok (.arraylength, 1) := by decide +kernel
theorem dX5_goThrough_10 : decode cX5_goThrough 10 = .ok (.if_icmp .ge 13, 3) := by decide +kernel
theorem dX5_goThrough_13 : decode cX5_goThrough 13 = .ok (.aload_n 0, 1) := by decide +kernel
theorem dX5_goThrough_14 : decode cX5_goThrough 14 = .ok (.getfield 19, 3) := by decide +kernel
theorem dX5_goThrough_17 : decode cX5_goThrough 17 = .ok (.iload_n 1, 1) := by decide +kernel
theorem dX5_goThrough_18 : decode cX5_goThrough 18 = .ok (.aaload, 1) := by decide +kernel
theorem dX5_goThrough_19 : decode cX5_goThrough 19 = .ok (.iload_n 2, 1) := by decide +kernel
theorem dX5_goThrough_20 : decode cX5_goThrough 20 = .ok (.invokevirtual 202, 3) := by decide +kernel
theorem dX5_goThrough_23 : decode cX5_goThrough 23 = .ok (.iload_n 2, 1) := by decide +kernel
theorem dX5_goThrough_24 : decode cX5_goThrough 24 = .ok (.ifCond .ne 26, 3) := by decide +kernel
theorem dX5_goThrough_27 : decode cX5_goThrough 27 = .ok (.aload_n 0, 1) := by decide +kernel
theorem dX5_goThrough_28 : decode cX5_goThrough 28 = .ok (.dup, 1) := by decide +kernel
theorem dX5_goThrough_29 : decode cX5_goThrough 29 = .ok (.getfield 54, 3) := by decide +kernel
theorem dX5_goThrough_32 : decode cX5_goThrough 32 = .ok (.iconst 1, 1) := by decide +kernel
theorem dX5_goThrough_33 : decode cX5_goThrough 33 = .ok (.iadd, 1) := by decide +kernel
theorem dX5_goThrough_34 : decode cX5_goThrough 34 = .ok (.putfield 54, 3) := by decide +kernel
theorem dX5_goThrough_37 : decode cX5_goThrough 37 = .ok (.aload_n 0, 1) := by decide +kernel
theorem dX5_goThrough_38 : decode cX5_goThrough 38 = .ok (.dup, 1) := by decide +kernel
theorem dX5_goThrough_39 : decode cX5_goThrough 39 = .ok (.getfield 51, 3) := by decide +kernel
theorem dX5_goThrough_42 : decode cX5_goThrough 42 = .ok (.iconst 1, 1) := by decide +kernel
theorem dX5_goThrough_43 : decode cX5_goThrough 43 = .ok (.iadd, 1) := by decide +kernel
theorem dX5_goThrough_44 : decode cX5_goThrough 44 = .ok (.putfield 51, 3) := by decide +kernel
theorem dX5_goThrough_47 : decode cX5_goThrough 47 = .ok (.goto 23, 3) := by decide +kernel
theorem dX5_goThrough_50 : decode cX5_goThrough 50 = .ok (.aload_n 0, 1) := by decide +kernel
theorem dX5_goThrough_51 : decode cX5_goThrough 51 = .ok (.dup, 1) := by decide +kernel
theorem dX5_goThrough_52 : decode cX5_goThrough 52 = .ok (.getfield 57, 3) := by decide +kernel
theorem dX5_goThrough_55 : decode cX5_goThrough 55 = .ok (.iconst 1, 1) := by decide +kernel
theorem dX5_goThrough_56 : decode cX5_goThrough 56 = .ok (.iadd, 1) := by decide +kernel
theorem dX5_goThrough_57 : decode cX5_goThrough 57 = .ok (.putfield 57, 3) := by decide +kernel
theorem dX5_goThrough_60 : decode cX5_goThrough 60 = .ok (.aload_n 0, 1) := by decide +kernel
theorem dX5_goThrough_61 : decode cX5_goThrough 61 = .ok (.dup, 1) := by decide +kernel
theorem dX5_goThrough_62 : decode cX5_goThrough 62 = .ok (.getfield 51, 3) := by decide +kernel
theorem dX5_goThrough_65 : decode cX5_goThrough 65 = .ok (.iconst 1, 1) := by decide +kernel
theorem dX5_goThrough_66 : decode cX5_goThrough 66 = .ok (.isub, 1) := by decide +kernel
theorem dX5_goThrough_67 : decode cX5_goThrough 67 = .ok (.putfield 51, 3) := by decide +kernel
theorem dX5_goThrough_70 : decode cX5_goThrough 70 = .ok (.return_, 1) := by decide +kernel
theorem dX5_serveNext_0 : decode cX5_serveNext 0 = .ok (.aload_n 1, 1) := by decide +kernel
theorem dX5_serveNext_1 : decode cX5_serveNext 1 = .ok (.invokevirtual 206, 3) := by decide +kernel
theorem dX5_serveNext_4 : decode cX5_serveNext 4 = .ok (.istore_n 2, 1) := by decide +kernel
theorem dX5_serveNext_5 : decode cX5_serveNext 5 = .ok (.aload_n 1, 1) := by decide +kernel
theorem dX5_serveNext_6 : decode cX5_serveNext 6 = .ok (.iload_n 2, 1) := by decide +kernel
theorem dX5_serveNext_7 : decode cX5_serveNext 7 = .ok (.invokevirtual 137, 3) := by decide +kernel
theorem dX5_serveNext_10 : decode cX5_serveNext 10 = .ok (.astore_n 3, 1) := by decide +kernel
theorem dX5_serveNext_11 : decode cX5_serveNext 11 = .ok (.aload_n 3, 1) := by decide +kernel
theorem dX5_serveNext_12 : decode cX5_serveNext 12 = .ok (.invokevirtual 209, 3) := by decide +kernel
theorem dX5_serveNext_15 : decode cX5_serveNext 15 = .ok (.istore 4, 2) := by decide +kernel
theorem dX5_serveNext_17 : decode cX5_serveNext 17 = .ok (.aload_n 3, 1) := by decide +kernel
theorem dX5_serveNext_18 : decode cX5_serveNext 18 = .ok (.iload 4, 2) := by decide +kernel
theorem dX5_serveNext_20 : decode cX5_serveNext 20 = .ok (.invokevirtual 212, 3) := by decide +kernel
theorem dX5_serveNext_23 : decode cX5_serveNext 23 = .ok (.istore 5, 2) := by decide +kernel
theorem dX5_serveNext_25 : decode cX5_serveNext 25 = .ok (.iload 5, 2) := by decide +kernel
theorem dX5_serveNext_27 : decode cX5_serveNext 27 = .ok (.ifCond .lt 13, 3) := by decide +kernel
theorem dX5_serveNext_30 : decode cX5_serveNext 30 = .ok (.iload 5, 2) := by decide +kernel
theorem dX5_serveNext_32 : decode cX5_serveNext 32 = .ok (.aload_n 0, 1) := by decide +kernel
theorem dX5_serveNext_33 : decode cX5_serveNext 33 = .ok (.getfield 19, 3) := by decide +kernel
theorem dX5_serveNext_36 : decode cX5_serveNext 36 = .ok (.arraylength, 1) := by decide +kernel
theorem dX5_serveNext_37 : decode cX5_serveNext 37 = .ok (.if_icmp .lt 4, 3) := by decide +kernel
theorem dX5_serveNext_40 : decode cX5_serveNext 40 = .ok (.return_, 1) := by decide +kernel
theorem dX5_serveNext_41 : decode cX5_serveNext 41 = .ok (.aload_n 0, 1) := by decide +kernel
theorem dX5_serveNext_42 : decode cX5_serveNext 42 = .ok (.getfield 19, 3) := by decide +kernel
theorem dX5_serveNext_45 : decode cX5_serveNext 45 = .ok (.iload 5, 2) := by decide +kernel
theorem dX5_serveNext_47 : decode cX5_serveNext 47 = .ok (.aaload, 1) := by decide +kernel
theorem dX5_serveNext_48 : decode cX5_serveNext 48 = .ok (.iload_n 2, 1) := by decide +kernel
theorem dX5_serveNext_49 : decode cX5_serveNext 49 = .ok (.invokevirtual 215, 3) := by decide +kernel
theorem dX5_serveNext_52 : decode cX5_serveNext 52 = .ok (.ifCond .ne 19, 3) := by decide +kernel
theorem dX5_serveNext_55 : decode cX5_serveNext 55 = .ok (.aload_n 3, 1) := by decide +kernel
theorem dX5_serveNext_56 : decode cX5_serveNext 56 = .ok (.iload 4, 2) := by decide +kernel
theorem dX5_serveNext_58 : decode cX5_serveNext 58 = .ok (.invokevirtual 218, 3) := by decide +kernel
theorem dX5_serveNext_61 : decode cX5_serveNext 61 = .ok (.aload_n 1, 1) := by decide +kernel
theorem dX5_serveNext_62 : decode cX5_serveNext 62 = .ok (.iload_n 2, 1) := by decide +kernel
theorem dX5_serveNext_63 : decode cX5_serveNext 63 = .ok (.aload_n 0, 1) := by decide +kernel
theorem dX5_serveNext_64 : decode cX5_serveNext 64 = .ok (.getfield 23, 3) := by decide +kernel
theorem dX5_serveNext_67 : decode cX5_serveNext 67 = .ok (.invokevirtual 221, 3) := by decide +kernel
theorem dX5_serveNext_70 : decode cX5_serveNext 70 = .ok (.return_, 1) := by decide +kernel
theorem dX5_serveNext_71 : decode cX5_serveNext 71 = .ok (.aload_n 3, 1) := by decide +kernel
theorem dX5_serveNext_72 : decode cX5_serveNext 72 = .ok (.iload 4, 2) := by decide +kernel
theorem dX5_serveNext_74 : decode cX5_serveNext 74 = .ok (.invokevirtual 180, 3) := by decide +kernel
theorem dX5_serveNext_77 : decode cX5_serveNext 77 = .ok (.pop, 1) := by decide +kernel
theorem dX5_serveNext_78 : decode cX5_serveNext 78 = .ok (.aload_n 0, 1) := by decide +kernel
theorem dX5_serveNext_79 : decode cX5_serveNext 79 = .ok (.dup, 1) := by decide +kernel
theorem dX5_serveNext_80 : decode cX5_serveNext 80 = .ok (.getfield 63, 3) := by decide +kernel
theorem dX5_serveNext_83 : decode cX5_serveNext 83 = .ok (.iconst 1, 1) := by decide +kernel
theorem dX5_serveNext_84 : decode cX5_serveNext 84 = .ok (.iadd, 1) := by decide +kernel
theorem dX5_serveNext_85 : decode cX5_serveNext 85 = .ok (.putfield 63, 3) := by decide +kernel
theorem dX5_serveNext_88 : decode cX5_serveNext 88 = .ok (.iload_n 2, 1) := by decide +kernel
theorem dX5_serveNext_89 : decode cX5_serveNext 89 = .ok (.iconst 1, 1) := by decide +kernel
theorem dX5_serveNext_90 : decode cX5_serveNext 90 = .ok (.if_icmp .ne 23, 3) := by decide +kernel
theorem dX5_serveNext_93 : decode cX5_serveNext 93 = .ok (.aload_n 0, 1) := by decide +kernel
theorem dX5_serveNext_94 : decode cX5_serveNext 94 = .ok (.dup, 1) := by decide +kernel
theorem dX5_serveNext_95 : decode cX5_serveNext 95 = .ok (.getfield 66, 3) := by decide +kernel
theorem dX5_serveNext_98 : decode cX5_serveNext 98 = .ok (.iconst 1, 1) := by decide +kernel
theorem dX5_serveNext_99 : decode cX5_serveNext 99 = .ok (.iadd, 1) := by decide +kernel
theorem dX5_serveNext_100 : decode cX5_serveNext 100 = .ok (.putfield 66, 3) := by decide +kernel
theorem dX5_serveNext_103 : decode cX5_serveNext 103 = .ok (.aload_n 0, 1) := by decide +kernel
theorem dX5_serveNext_104 : decode cX5_serveNext 104 = .ok (.dup, 1) := by decide +kernel
theorem dX5_serveNext_105 : decode cX5_serveNext 105 = .ok (.getfield 51, 3) := by decide +kernel
theorem dX5_serveNext_108 : decode cX5_serveNext 108 = .ok (.iconst 1, 1) := by decide +kernel
theorem dX5_serveNext_109 : decode cX5_serveNext 109 = .ok (.isub, 1) := by decide +kernel
theorem dX5_serveNext_110 : decode cX5_serveNext 110 = .ok (.putfield 51, 3) := by decide +kernel
theorem dX5_serveNext_113 : decode cX5_serveNext 113 = .ok (.return_, 1) := by decide +kernel
theorem dX6_init_0 : decode cX6_init 0 = .ok (.aload_n 0, 1) := by decide +kernel
theorem dX6_init_1 : decode cX6_init 1 = .ok (.invokespecial 3, 3) := by decide +kernel
theorem dX6_init_4 : decode cX6_init 4 = .ok (.return_, 1) := by decide +kernel
theorem dX6_readSetup_0 : decode cX6_readSetup 0 = .ok (.aload_n 0, 1) := by decide +kernel
theorem dX6_readSetup_1 : decode cX6_readSetup 1 = .ok (.aload_n 1, 1) := by decide +kernel
theorem dX6_readSetup_2 : decode cX6_readSetup 2 = .ok (.aload_n 2, 1) := by decide +kernel
theorem dX6_readSetup_3 : decode cX6_readSetup 3 = .ok (.invokevirtual 9, 3) := by decide +kernel
theorem dX6_readSetup_6 : decode cX6_readSetup 6 = .ok (.istore_n 3, 1) := by decide +kernel
theorem dX6_readSetup_7 : decode cX6_readSetup 7 = .ok (.iconst 0, 1) := by decide +kernel
theorem dX6_readSetup_8 : decode cX6_readSetup 8 = .ok (.istore 4, 2) := by decide +kernel
theorem dX6_readSetup_10 : decode cX6_readSetup 10 = .ok (.iload_n 3, 1) := by decide +kernel
theorem dX6_readSetup_11 : decode cX6_readSetup 11 = .ok (.ifCond .eq 167, 3) := by decide +kernel
theorem dX6_readSetup_14 : decode cX6_readSetup 14 = .ok (.iload 4, 2) := by decide +kernel
theorem dX6_readSetup_16 : decode cX6_readSetup 16 = .ok (.sipush 500, 3) := by decide +kernel
theorem dX6_readSetup_19 : decode cX6_readSetup 19 = .ok (.if_icmp .ge 159, 3) := by decide +kernel
theorem dX6_readSetup_22 : decode cX6_readSetup 22 = .ok (.aload_n 1, 1) := by decide +kernel
theorem dX6_readSetup_23 : decode cX6_readSetup 23 = .ok (.getfield 15, 3) := by decide +kernel
theorem dX6_readSetup_26 : decode cX6_readSetup 26 = .ok (.ifCond .eq 152, 3) := by decide +kernel
theorem dX6_readSetup_29 : decode cX6_readSetup 29 = .ok (.aload_n 1, 1) := by decide +kernel
theorem dX6_readSetup_30 : decode cX6_readSetup 30 = .ok (.ldc 21, 2) := by decide +kernel
theorem dX6_readSetup_32 : decode cX6_readSetup 32 = .ok (.invokevirtual 23, 3) := by decide +kernel
theorem dX6_readSetup_35 : decode cX6_readSetup 35 = .ok (.ifCond .eq 13, 3) := by decide +kernel
theorem dX6_readSetup_38 : decode cX6_readSetup 38 = .ok (.aload_n 0, 1) := by decide +kernel
theorem dX6_readSetup_39 : decode cX6_readSetup 39 = .ok (.aload_n 1, 1) := by decide +kernel
theorem dX6_readSetup_40 : decode cX6_readSetup 40 = .ok (.aload_n 2, 1) := by decide +kernel
theorem dX6_readSetup_41 : decode cX6_readSetup 41 = .ok (.invokevirtual 27, 3) := by decide +kernel
theorem dX6_readSetup_44 : decode cX6_readSetup 44 = .ok (.istore_n 3, 1) := by decide +kernel
theorem dX6_readSetup_45 : decode cX6_readSetup 45 = .ok (.goto 109, 3) := by decide +kernel
theorem dX6_readSetup_48 : decode cX6_readSetup 48 = .ok (.aload_n 1, 1) := by decide +kernel
theorem dX6_readSetup_49 : decode cX6_readSetup 49 = .ok (.ldc 30, 2) := by decide +kernel
theorem dX6_readSetup_51 : decode cX6_readSetup 51 = .ok (.invokevirtual 23, 3) := by decide +kernel
theorem dX6_readSetup_54 : decode cX6_readSetup 54 = .ok (.ifCond .eq 13, 3) := by decide +kernel
theorem dX6_readSetup_57 : decode cX6_readSetup 57 = .ok (.aload_n 0, 1) := by decide +kernel
theorem dX6_readSetup_58 : decode cX6_readSetup 58 = .ok (.aload_n 1, 1) := by decide +kernel
theorem dX6_readSetup_59 : decode cX6_readSetup 59 = .ok (.aload_n 2, 1) := by decide +kernel
theorem dX6_readSetup_60 : decode cX6_readSetup 60 = .ok (.invokevirtual 32, 3) := by decide +kernel
theorem dX6_readSetup_63 : decode cX6_readSetup 63 = .ok (.istore_n 3, 1) := by decide +kernel
theorem dX6_readSetup_64 : decode cX6_readSetup 64 = .ok (.goto 90, 3) := by decide +kernel
theorem dX6_readSetup_67 : decode cX6_readSetup 67 = .ok (.aload_n 1, 1) := by decide +kernel
theorem dX6_readSetup_68 : decode cX6_readSetup 68 = .ok (.ldc 35, 2) := by decide +kernel
theorem dX6_readSetup_70 : decode cX6_readSetup 70 = .ok (.invokevirtual 23, 3) := by decide +kernel
theorem dX6_readSetup_73 : decode cX6_readSetup 73 = .ok (.ifCond .eq 13, 3) := by decide +kernel
theorem dX6_readSetup_76 : decode cX6_readSetup 76 = .ok (.aload_n 0, 1) := by decide +kernel
theorem dX6_readSetup_77 : decode cX6_readSetup 77 = .ok (.aload_n 1, 1) := by decide +kernel
theorem dX6_readSetup_78 : decode cX6_readSetup 78 = .ok (.aload_n 2, 1) := by decide +kernel
theorem dX6_readSetup_79 : decode cX6_readSetup 79 = .ok (.invokevirtual 37, 3) := by decide +kernel
theorem dX6_readSetup_82 : decode cX6_readSetup 82 = .ok (.istore_n 3, 1) := by decide +kernel
theorem dX6_readSetup_83 : decode cX6_readSetup 83 = .ok (.goto 71, 3) := by decide +kernel
theorem dX6_readSetup_86 : decode cX6_readSetup 86 = .ok (.aload_n 1, 1) := by decide +kernel
theorem dX6_readSetup_87 : decode cX6_readSetup 87 = .ok (.ldc 40, 2) := by decide +kernel
theorem dX6_readSetup_89 : decode cX6_readSetup 89 = .ok (.invokevirtual 23, 3) := by decide +kernel
theorem dX6_readSetup_92 : decode cX6_readSetup 92 = .ok (.ifCond .eq 13, 3) := by decide +kernel
theorem dX6_readSetup_95 : decode cX6_readSetup 95 = .ok (.aload_n 0, 1) := by decide +kernel
theorem dX6_readSetup_96 : decode cX6_readSetup 96 = .ok (.aload_n 1, 1) := by decide +kernel
theorem dX6_readSetup_97 : decode cX6_readSetup 97 = .ok (.aload_n 2, 1) := by decide +kernel
theorem dX6_readSetup_98 : decode cX6_readSetup 98 = .ok (.invokevirtual 42, 3) := by decide +kernel
theorem dX6_readSetup_101 : decode cX6_readSetup 101 = .ok (.istore_n 3, 1) := by decide +kernel
theorem dX6_readSetup_102 : decode cX6_readSetup 102 = .ok (.goto 52, 3) := by decide +kernel
theorem dX6_readSetup_105 : decode cX6_readSetup 105 = .ok (.aload_n 1, 1) := by decide +kernel
theorem dX6_readSetup_106 : decode cX6_readSetup 106 = .ok (.ldc 45, 2) := by decide +kernel
theorem dX6_readSetup_108 : decode cX6_readSetup 108 = .ok (.invokevirtual 23, 3) := by decide +kernel
theorem dX6_readSetup_111 : decode cX6_readSetup 111 = .ok (.ifCond .eq 13, 3) := by decide +kernel
theorem dX6_readSetup_114 : decode cX6_readSetup 114 = .ok (.aload_n 0, 1) := by decide +kernel
theorem dX6_readSetup_115 : decode cX6_readSetup 115 = .ok (.aload_n 1, 1) := by decide +kernel
theorem dX6_readSetup_116 : decode cX6_readSetup 116 = .ok (.aload_n 2, 1) := by decide +kernel
theorem dX6_readSetup_117 : decode cX6_readSetup 117 = .ok (.invokevirtual 47, 3) := by decide +kernel
theorem dX6_readSetup_120 : decode cX6_readSetup 120 = .ok (.istore_n 3, 1) := by decide +kernel
theorem dX6_readSetup_121 : decode cX6_readSetup 121 = .ok (.goto 33, 3) := by decide +kernel
theorem dX6_readSetup_124 : decode cX6_readSetup 124 = .ok (.aload_n 1, 1) := by decide +kernel
theorem dX6_readSetup_125 : decode cX6_readSetup 125 = .ok (.ldc 50, 2) := by decide +kernel
theorem dX6_readSetup_127 : decode cX6_readSetup 127 = .ok (.invokevirtual 23, 3) := by decide +kernel
theorem dX6_readSetup_130 : decode cX6_readSetup 130 = .ok (.ifCond .eq 13, 3) := by decide +kernel
theorem dX6_readSetup_133 : decode cX6_readSetup 133 = .ok (.aload_n 0, 1) := by decide +kernel
theorem dX6_readSetup_134 : decode cX6_readSetup 134 = .ok (.aload_n 1, 1) := by decide +kernel
theorem dX6_readSetup_135 : decode cX6_readSetup 135 = .ok (.aload_n 2, 1) := by decide +kernel
theorem dX6_readSetup_136 : decode cX6_readSetup 136 = .ok (.invokevirtual 52, 3) := by decide +kernel
theorem dX6_readSetup_139 : decode cX6_readSetup 139 = .ok (.istore_n 3, 1) := by decide +kernel
theorem dX6_readSetup_140 : decode cX6_readSetup 140 = .ok (.goto 14, 3) := by decide +kernel
theorem dX6_readSetup_143 : decode cX6_readSetup 143 = .ok (.aload_n 0, 1) := by decide +kernel
theorem dX6_readSetup_144 : decode cX6_readSetup 144 = .ok (.bipush (-2), 2) := by decide +kernel
theorem dX6_readSetup_146 : decode cX6_readSetup 146 = .ok (.aload_n 1, 1) := by decide +kernel
theorem dX6_readSetup_147 : decode cX6_readSetup 147 = .ok (.getfield 55, 3) := by decide +kernel
theorem dX6_readSetup_150 : decode cX6_readSetup 150 = .ok (.invokevirtual 58, 3) := by decide +kernel
theorem dX6_readSetup_153 : decode cX6_readSetup 153 = .ok (.istore_n 3, 1) := by decide +kernel
theorem dX6_readSetup_154 : decode cX6_readSetup 154 = .ok (.iload_n 3, 1) := by decide +kernel
theorem dX6_readSetup_155 : decode cX6_readSetup 155 = .ok (.ifCond .eq 15, 3) := by decide +kernel
theorem dX6_readSetup_158 : decode cX6_readSetup 158 = .ok (.aload_n 0, 1) := by decide +kernel
theorem dX6_readSetup_159 : decode cX6_readSetup 159 = .ok (.aload_n 1, 1) := by decide +kernel
theorem dX6_readSetup_160 : decode cX6_readSetup 160 = .ok (.invokevirtual 62, 3) := by decide +kernel
theorem dX6_readSetup_163 : decode cX6_readSetup 163 = .ok (.ifCond .eq 7, 3) := by decide +kernel
theorem dX6_readSetup_166 : decode cX6_readSetup 166 = .ok (.iconst 1, 1) := by decide +kernel
theorem dX6_readSetup_167 : decode cX6_readSetup 167 = .ok (.goto 4, 3) := by decide +kernel
theorem dX6_readSetup_170 : decode cX6_readSetup 170 = .ok (.iconst 0, 1) := by decide +kernel
theorem dX6_readSetup_171 : decode cX6_readSetup 171 = .ok (.istore_n 3, 1) := by decide +kernel
theorem dX6_readSetup_172 : decode cX6_readSetup 172 = .ok (.iinc 4 1, 3) := by decide +kernel
theorem dX6_readSetup_175 : decode cX6_readSetup 175 = .ok (.goto (-165), 3) := by decide +kernel
theorem dX6_readSetup_178 : decode cX6_readSetup 178 = .ok (.iload_n 3, 1) := by decide +kernel
theorem dX6_readSetup_179 : decode cX6_readSetup 179 = .ok (.ireturn, 1) := by decide +kernel
theorem dX6_readHead_0 : decode cX6_readHead 0 = .ok (.aload_n 1, 1) := by decide +kernel
theorem dX6_readHead_1 : decode cX6_readHead 1 = .ok (.ldc 66, 2) := by decide +kernel
theorem dX6_readHead_3 : decode cX6_readHead 3 = .ok (.invokevirtual 23, 3) := by decide +kernel
theorem dX6_readHead_6 : decode cX6_readHead 6 = .ok (.ifCond .ne 14, 3) := by decide +kernel
theorem dX6_readHead_9 : decode cX6_readHead 9 = .ok (.aload_n 0, 1) := by decide +kernel
theorem dX6_readHead_10 : decode cX6_readHead 10 = .ok (.bipush (-2), 2) := by decide +kernel
theorem dX6_readHead_12 : decode cX6_readHead 12 = .ok (.aload_n 1, 1) := by decide +kernel
theorem dX6_readHead_13 : decode cX6_readHead 13 = .ok (.getfield 55, 3) := by decide +kernel
theorem dX6_readHead_16 : decode cX6_readHead 16 = .ok (.invokevirtual 58, 3) := by decide +kernel
theorem dX6_readHead_19 : decode cX6_readHead 19 = .ok (.ireturn, 1) := by decide +kernel
theorem dX6_readHead_20 : decode cX6_readHead 20 = .ok (.aload_n 1, 1) := by decide +kernel
theorem dX6_readHead_21 : decode cX6_readHead 21 = .ok (.invokevirtual 68, 3) := by decide +kernel
theorem dX6_readHead_24 : decode cX6_readHead 24 = .ok (.aload_n 0, 1) := by decide +kernel
theorem dX6_readHead_25 : decode cX6_readHead 25 = .ok (.aload_n 1, 1) := by decide +kernel
theorem dX6_readHead_26 : decode cX6_readHead 26 = .ok (.iconst 1, 1) := by decide +kernel
theorem dX6_readHead_27 : decode cX6_readHead 27 = .ok (.bipush 9, 2) := by decide +kernel
theorem dX6_readHead_29 : decode cX6_readHead 29 = .ok (.invokevirtual 71, 3) := by decide +kernel
theorem dX6_readHead_32 : decode cX6_readHead 32 = .ok (.istore_n 3, 1) := by decide +kernel
theorem dX6_readHead_33 : decode cX6_readHead 33 = .ok (.iload_n 3, 1) := by decide +kernel
theorem dX6_readHead_34 : decode cX6_readHead 34 = .ok (.ifCond .ge 5, 3) := by decide +kernel
theorem dX6_readHead_37 : decode cX6_readHead 37 = .ok (.iconst 0, 1) := by decide +kernel
theorem dX6_readHead_38 : decode cX6_readHead 38 = .ok (.ireturn, 1) := by decide +kernel
theorem dX6_readHead_39 : decode cX6_readHead 39 = .ok (.aload_n 0, 1) := by decide +kernel
theorem dX6_readHead_40 : decode cX6_readHead 40 = .ok (.aload_n 1, 1) := by decide +kernel
theorem dX6_readHead_41 : decode cX6_readHead 41 = .ok (.iconst 1, 1) := by decide +kernel
theorem dX6_readHead_42 : decode cX6_readHead 42 = .ok (.iconst 4, 1) := by decide +kernel
theorem dX6_readHead_43 : decode cX6_readHead 43 = .ok (.invokevirtual 71, 3) := by decide +kernel
theorem dX6_readHead_46 : decode cX6_readHead 46 = .ok (.istore 4, 2) := by decide +kernel
theorem dX6_readHead_48 : decode cX6_readHead 48 = .ok (.iload 4, 2) := by decide +kernel
theorem dX6_readHead_50 : decode cX6_readHead 50 = .ok (.ifCond .ge 5, 3) := by decide +kernel
theorem dX6_readHead_53 : decode cX6_readHead 53 = .ok (.iconst 0, 1) := by decide +kernel
theorem dX6_readHead_54 : decode cX6_readHead 54 = .ok (.ireturn, 1) := by decide +kernel
theorem dX6_readHead_55 : decode cX6_readHead 55 = .ok (.aload_n 2, 1) := by decide +kernel
theorem dX6_readHead_56 : decode cX6_readHead 56 = .ok (.iload_n 3, 1) := by decide +kernel
theorem dX6_readHead_57 : decode cX6_readHead 57 = .ok (.putfield 75, 3) := by decide +kernel
theorem dX6_readHead_60 : decode cX6_readHead 60 = .ok (.aload_n 2, 1) := by decide +kernel
theorem dX6_readHead_61 : decode cX6_readHead 61 = .ok (.iload 4, 2) := by decide +kernel
theorem dX6_readHead_63 : decode cX6_readHead 63 = .ok (.putfield 80, 3) := by decide +kernel
theorem dX6_readHead_66 : decode cX6_readHead 66 = .ok (.aload_n 0, 1) := by decide +kernel
theorem dX6_readHead_67 : decode cX6_readHead 67 = .ok (.aload_n 1, 1) := by decide +kernel
theorem dX6_readHead_68 : decode cX6_readHead 68 = .ok (.invokevirtual 62, 3) := by decide +kernel
theorem dX6_readHead_71 : decode cX6_readHead 71 = .ok (.ireturn, 1) := by decide +kernel
theorem dX6_readGate_0 : decode cX6_readGate 0 = .ok (.aload_n 2, 1) := by decide +kernel
theorem dX6_readGate_1 : decode cX6_readGate 1 = .ok (.invokevirtual 83, 3) := by decide +kernel
theorem dX6_readGate_4 : decode cX6_readGate 4 = .ok (.ifCond .ne 14, 3) := by decide +kernel
theorem dX6_readGate_7 : decode cX6_readGate 7 = .ok (.aload_n 0, 1) := by decide +kernel
theorem dX6_readGate_8 : decode cX6_readGate 8 = .ok (.bipush (-5), 2) := by decide +kernel
theorem dX6_readGate_10 : decode cX6_readGate 10 = .ok (.aload_n 1, 1) := by decide +kernel
theorem dX6_readGate_11 : decode cX6_readGate 11 = .ok (.getfield 55, 3) := by decide +kernel
theorem dX6_readGate_14 : decode cX6_readGate 14 = .ok (.invokevirtual 58, 3) := by decide +kernel
theorem dX6_readGate_17 : decode cX6_readGate 17 = .ok (.ireturn, 1) := by decide +kernel
theorem dX6_readGate_18 : decode cX6_readGate 18 = .ok (.aload_n 1, 1) := by decide +kernel
theorem dX6_readGate_19 : decode cX6_readGate 19 = .ok (.invokevirtual 68, 3) := by decide +kernel
theorem dX6_readGate_22 : decode cX6_readGate 22 = .ok (.aload_n 1, 1) := by decide +kernel
theorem dX6_readGate_23 : decode cX6_readGate 23 = .ok (.ldc 87, 2) := by decide +kernel
theorem dX6_readGate_25 : decode cX6_readGate 25 = .ok (.invokevirtual 23, 3) := by decide +kernel
theorem dX6_readGate_28 : decode cX6_readGate 28 = .ok (.ifCond .eq 7, 3) := by decide +kernel
theorem dX6_readGate_31 : decode cX6_readGate 31 = .ok (.iconst 2, 1) := by decide +kernel
theorem dX6_readGate_32 : decode cX6_readGate 32 = .ok (.goto 30, 3) := by decide +kernel
theorem dX6_readGate_35 : decode cX6_readGate 35 = .ok (.aload_n 1, 1) := by decide +kernel
theorem dX6_readGate_36 : decode cX6_readGate 36 = .ok (.ldc 89, 2) := by decide +kernel
theorem dX6_readGate_38 : decode cX6_readGate 38 = .ok (.invokevirtual 23, 3) := by decide +kernel
theorem dX6_readGate_41 : decode cX6_readGate 41 = .ok (.ifCond .eq 7, 3) := by decide +kernel
theorem dX6_readGate_44 : decode cX6_readGate 44 = .ok (.iconst 1, 1) := by decide +kernel
theorem dX6_readGate_45 : decode cX6_readGate 45 = .ok (.goto 17, 3) := by decide +kernel
theorem dX6_readGate_48 : decode cX6_readGate 48 = .ok (.aload_n 1, 1) := by decide +kernel
theorem dX6_readGate_49 : decode cX6_readGate 49 = .ok (.ldc 91, 2) := by decide +kernel
theorem dX6_readGate_51 : decode cX6_readGate 51 = .ok (.invokevirtual 23, 3) := by decide +kernel
theorem dX6_readGate_54 : decode cX6_readGate 54 = .ok (.ifCond .eq 7, 3) := by decide +kernel
theorem dX6_readGate_57 : decode cX6_readGate 57 = .ok (.iconst 0, 1) := by decide +kernel
theorem dX6_readGate_58 : decode cX6_readGate 58 = .ok (.goto 4, 3) := by decide +kernel
theorem dX6_readGate_61 : decode cX6_readGate 61 = .ok (.iconst (-1), 1) := by decide +kernel
theorem dX6_readGate_62 : decode cX6_readGate 62 = .ok (.istore_n 3, 1) := by decide +kernel
theorem dX6_readGate_63 : decode cX6_readGate 63 = .ok (.iload_n 3, 1) := by decide +kernel
theorem dX6_readGate_64 : decode cX6_readGate 64 = .ok (.iconst (-1), 1) := by decide +kernel
theorem dX6_readGate_65 : decode cX6_readGate 65 = .ok (.if_icmp .ne 14, 3) := by decide +kernel
theorem dX6_readGate_68 : decode cX6_readGate 68 = .ok (.aload_n 0, 1) := by decide +kernel
theorem dX6_readGate_69 : decode cX6_readGate 69 = .ok (.bipush (-2), 2) := by decide +kernel
theorem dX6_readGate_71 : decode cX6_readGate 71 = .ok (.aload_n 1, 1) := by decide +kernel
theorem dX6_readGate_72 : decode cX6_readGate 72 = .ok (.getfield 55, 3) := by decide +kernel
theorem dX6_readGate_75 : decode cX6_readGate 75 = .ok (.invokevirtual 58, 3) := by decide +kernel
theorem dX6_readGate_78 : decode cX6_readGate 78 = .ok (.ireturn, 1) := by decide +kernel
theorem dX6_readGate_79 : decode cX6_readGate 79 = .ok (.aload_n 1, 1) := by decide +kernel
theorem dX6_readGate_80 : decode cX6_readGate 80 = .ok (.invokevirtual 68, 3) := by decide +kernel
theorem dX6_readGate_83 : decode cX6_readGate 83 = .ok (.aload_n 2, 1) := by decide +kernel
theorem dX6_readGate_84 : decode cX6_readGate 84 = .ok (.iload_n 3, 1) := by decide +kernel
theorem dX6_readGate_85 : decode cX6_readGate 85 = .ok (.invokevirtual 93, 3) := by decide +kernel
theorem dX6_readGate_88 : decode cX6_readGate 88 = .ok (.iconst 1, 1) := by decide +kernel
theorem dX6_readGate_89 : decode cX6_readGate 89 = .ok (.ireturn, 1) := by decide +kernel
theorem dX6_readCard_0 : decode cX6_readCard 0 = .ok (.aload_n 2, 1) := by decide +kernel
theorem dX6_readCard_1 : decode cX6_readCard 1 = .ok (.invokevirtual 97, 3) := by decide +kernel
theorem dX6_readCard_4 : decode cX6_readCard 4 = .ok (.ifCond .ne 14, 3) := by decide +kernel
theorem dX6_readCard_7 : decode cX6_readCard 7 = .ok (.aload_n 0, 1) := by decide +kernel
theorem dX6_readCard_8 : decode cX6_readCard 8 = .ok (.bipush (-5), 2) := by decide +kernel
theorem dX6_readCard_10 : decode cX6_readCard 10 = .ok (.aload_n 1, 1) := by decide +kernel
theorem dX6_readCard_11 : decode cX6_readCard 11 = .ok (.getfield 55, 3) := by decide +kernel
theorem dX6_readCard_14 : decode cX6_readCard 14 = .ok (.invokevirtual 58, 3) := by decide +kernel
theorem dX6_readCard_17 : decode cX6_readCard 17 = .ok (.ireturn, 1) := by decide +kernel
theorem dX6_readCard_18 : decode cX6_readCard 18 = .ok (.aload_n 1, 1) := by decide +kernel
theorem dX6_readCard_19 : decode cX6_readCard 19 = .ok (.invokevirtual 68, 3) := by decide +kernel
theorem dX6_readCard_22 : decode cX6_readCard 22 = .ok (.aload_n 0, 1) := by decide +kernel
theorem dX6_readCard_23 : decode cX6_readCard 23 = .ok (.aload_n 1, 1) := by decide +kernel
theorem dX6_readCard_24 : decode cX6_readCard 24 = .ok (.invokevirtual 100, 3) := by decide +kernel
theorem dX6_readCard_27 : decode cX6_readCard 27 = .ok (.ifCond .ne 5, 3) := by decide +kernel
theorem dX6_readCard_30 : decode cX6_readCard 30 = .ok (.iconst 0, 1) := by decide +kernel
theorem dX6_readCard_31 : decode cX6_readCard 31 = .ok (.ireturn, 1) := by decide +kernel
theorem dX6_readCard_32 : decode cX6_readCard 32 = .ok (.aload_n 1, 1) := by decide +kernel
theorem dX6_readCard_33 : decode cX6_readCard 33 = .ok (.getfield 103, 3) := by decide +kernel
theorem dX6_readCard_36 : decode cX6_readCard 36 = .ok (.istore_n 3, 1) := by decide +kernel
theorem dX6_readCard_37 : decode cX6_readCard 37 = .ok (.aload_n 2, 1) := by decide +kernel
theorem dX6_readCard_38 : decode cX6_readCard 38 = .ok (.iload_n 3, 1) := by decide +kernel
theorem dX6_readCard_39 : decode cX6_readCard 39 = .ok (.invokevirtual 106, 3) := by decide +kernel
theorem dX6_readCard_42 : decode cX6_readCard 42 = .ok (.iconst (-1), 1) := by decide +kernel
theorem dX6_readCard_43 : decode cX6_readCard 43 = .ok (.if_icmp .eq 14, 3) := by decide +kernel
theorem dX6_readCard_46 : decode cX6_readCard 46 = .ok (.aload_n 0, 1) := by decide +kernel
theorem dX6_readCard_47 : decode cX6_readCard 47 = .ok (.bipush (-4), 2) := by decide +kernel
theorem dX6_readCard_49 : decode cX6_readCard 49 = .ok (.aload_n 1, 1) := by decide +kernel
theorem dX6_readCard_50 : decode cX6_readCard 50 = .ok (.getfield 55, 3) := by decide +kernel
theorem dX6_readCard_53 : decode cX6_readCard 53 = .ok (.invokevirtual 58, 3) := by decide +kernel
theorem dX6_readCard_56 : decode cX6_readCard 56 = .ok (.ireturn, 1) := by decide +kernel
theorem dX6_readCard_57 : decode cX6_readCard 57 = .ok (.aload_n 1, 1) := by decide +kernel
theorem dX6_readCard_58 : decode cX6_readCard 58 = .ok (.invokevirtual 68, 3) := by decide +kernel
theorem dX6_readCard_61 : decode cX6_readCard 61 = .ok (.aload_n 0, 1) := by decide +kernel
theorem dX6_readCard_62 : decode cX6_readCard 62 = .ok (.aload_n 1, 1) := by decide +kernel
theorem dX6_readCard_63 : decode cX6_readCard 63 = .ok (.iconst 0, 1) := by decide +kernel
theorem dX6_readCard_64 : decode cX6_readCard 64 = .ok (.bipush 99, 2) := by decide +kernel
theorem dX6_readCard_66 : decode cX6_readCard 66 = .ok (.invokevirtual 71, 3) := by decide +kernel
theorem dX6_readCard_69 : decode cX6_readCard 69 = .ok (.istore 4, 2) := by decide +kernel
theorem dX6_readCard_71 : decode cX6_readCard 71 = .ok (.iload 4, 2) := by decide +kernel
theorem dX6_readCard_73 : decode cX6_readCard 73 = .ok (.ifCond .ge 5, 3) := by decide +kernel
theorem dX6_readCard_76 : decode cX6_readCard 76 = .ok (.iconst 0, 1) := by decide +kernel
theorem dX6_readCard_77 : decode cX6_readCard 77 = .ok (.ireturn, 1) := by decide +kernel
theorem dX6_readCard_78 : decode cX6_readCard 78 = .ok (.aload_n 2, 1) := by decide +kernel
theorem dX6_readCard_79 : decode cX6_readCard 79 = .ok (.iload_n 3, 1) := by decide +kernel
theorem dX6_readCard_80 : decode cX6_readCard 80 = .ok (.iload 4, 2) := by decide +kernel
theorem dX6_readCard_82 : decode cX6_readCard 82 = .ok (.invokevirtual 110, 3) := by decide +kernel
theorem dX6_readCard_85 : decode cX6_readCard 85 = .ok (.iconst 1, 1) := by decide +kernel
theorem dX6_readCard_86 : decode cX6_readCard 86 = .ok (.ireturn, 1) := by decide +kernel
theorem dX6_readList_0 : decode cX6_readList 0 = .ok (.aload_n 1, 1) := by decide +kernel
theorem dX6_readList_1 : decode cX6_readList 1 = .ok (.invokevirtual 68, 3) := by decide +kernel
theorem dX6_readList_4 : decode cX6_readList 4 = .ok (.iconst 0, 1) := by decide +kernel
theorem dX6_readList_5 : decode cX6_readList 5 = .ok (.istore_n 3, 1) := by decide +kernel
theorem dX6_readList_6 : decode cX6_readList 6 = .ok (.aload_n 0, 1) := by decide +kernel
theorem dX6_readList_7 : decode cX6_readList 7 = .ok (.aload_n 1, 1) := by decide +kernel
theorem dX6_readList_8 : decode cX6_readList 8 = .ok (.aload_n 2, 1) := by decide +kernel
theorem dX6_readList_9 : decode cX6_readList 9 = .ok (.invokevirtual 114, 3) := by decide +kernel
theorem dX6_readList_12 : decode cX6_readList 12 = .ok (.istore 4, 2) := by decide +kernel
theorem dX6_readList_14 : decode cX6_readList 14 = .ok (.aload_n 2, 1) := by decide +kernel
theorem dX6_readList_15 : decode cX6_readList 15 = .ok (.iload 4, 2) := by decide +kernel
theorem dX6_readList_17 : decode cX6_readList 17 = .ok (.invokevirtual 118, 3) := by decide +kernel
theorem dX6_readList_20 : decode cX6_readList 20 = .ok (.ifCond .ne 5, 3) := by decide +kernel
theorem dX6_readList_23 : decode cX6_readList 23 = .ok (.iconst 0, 1) := by decide +kernel
theorem dX6_readList_24 : decode cX6_readList 24 = .ok (.ireturn, 1) := by decide +kernel
theorem dX6_readList_25 : decode cX6_readList 25 = .ok (.aload_n 2, 1) := by decide +kernel
theorem dX6_readList_26 : decode cX6_readList 26 = .ok (.getfield 122, 3) := by decide +kernel
theorem dX6_readList_29 : decode cX6_readList 29 = .ok (.iload 4, 2) := by decide +kernel
theorem dX6_readList_31 : decode cX6_readList 31 = .ok (.aaload, 1) := by decide +kernel
theorem dX6_readList_32 : decode cX6_readList 32 = .ok (.iconst 1, 1) := by decide +kernel
theorem dX6_readList_33 : decode cX6_readList 33 = .ok (.putfield 126, 3) := by decide +kernel
theorem dX6_readList_36 : decode cX6_readList 36 = .ok (.iinc 3 1, 3) := by decide +kernel
theorem dX6_readList_39 : decode cX6_readList 39 = .ok (.iload_n 3, 1) := by decide +kernel
theorem dX6_readList_40 : decode cX6_readList 40 = .ok (.sipush 500, 3) := by decide +kernel
theorem dX6_readList_43 : decode cX6_readList 43 = .ok (.if_icmp .ge 11, 3) := by decide +kernel
theorem dX6_readList_46 : decode cX6_readList 46 = .ok (.aload_n 1, 1) := by decide +kernel
theorem dX6_readList_47 : decode cX6_readList 47 = .ok (.getfield 15, 3) := by decide +kernel
theorem dX6_readList_50 : decode cX6_readList 50 = .ok (.iconst 2, 1) := by decide +kernel
theorem dX6_readList_51 : decode cX6_readList 51 = .ok (.if_icmp .eq (-45), 3) := by decide +kernel
theorem dX6_readList_54 : decode cX6_readList 54 = .ok (.iconst 1, 1) := by decide +kernel
theorem dX6_readList_55 : decode cX6_readList 55 = .ok (.ireturn, 1) := by decide +kernel
theorem dX6_readWait_0 : decode cX6_readWait 0 = .ok (.aload_n 1, 1) := by decide +kernel
theorem dX6_readWait_1 : decode cX6_readWait 1 = .ok (.invokevirtual 68, 3) := by decide +kernel
theorem dX6_readWait_4 : decode cX6_readWait 4 = .ok (.aload_n 0, 1) := by decide +kernel
theorem dX6_readWait_5 : decode cX6_readWait 5 = .ok (.aload_n 1, 1) := by decide +kernel
theorem dX6_readWait_6 : decode cX6_readWait 6 = .ok (.iconst 0, 1) := by decide +kernel
theorem dX6_readWait_7 : decode cX6_readWait 7 = .ok (.aload_n 2, 1) := by decide +kernel
theorem dX6_readWait_8 : decode cX6_readWait 8 = .ok (.getfield 132, 3) := by decide +kernel
theorem dX6_readWait_11 : decode cX6_readWait 11 = .ok (.iconst 1, 1) := by decide +kernel
theorem dX6_readWait_12 : decode cX6_readWait 12 = .ok (.isub, 1) := by decide +kernel
theorem dX6_readWait_13 : decode cX6_readWait 13 = .ok (.invokevirtual 71, 3) := by decide +kernel
theorem dX6_readWait_16 : decode cX6_readWait 16 = .ok (.istore_n 3, 1) := by decide +kernel
theorem dX6_readWait_17 : decode cX6_readWait 17 = .ok (.aload_n 2, 1) := by decide +kernel
theorem dX6_readWait_18 : decode cX6_readWait 18 = .ok (.iload_n 3, 1) := by decide +kernel
theorem dX6_readWait_19 : decode cX6_readWait 19 = .ok (.invokevirtual 135, 3) := by decide +kernel
theorem dX6_readWait_22 : decode cX6_readWait 22 = .ok (.ifCond .ne 5, 3) := by decide +kernel
theorem dX6_readWait_25 : decode cX6_readWait 25 = .ok (.iconst 0, 1) := by decide +kernel
theorem dX6_readWait_26 : decode cX6_readWait 26 = .ok (.ireturn, 1) := by decide +kernel
theorem dX6_readWait_27 : decode cX6_readWait 27 = .ok (.aload_n 1, 1) := by decide +kernel
theorem dX6_readWait_28 : decode cX6_readWait 28 = .ok (.getfield 55, 3) := by decide +kernel
theorem dX6_readWait_31 : decode cX6_readWait 31 = .ok (.istore 4, 2) := by decide +kernel
theorem dX6_readWait_33 : decode cX6_readWait 33 = .ok (.aload_n 1, 1) := by decide +kernel
theorem dX6_readWait_34 : decode cX6_readWait 34 = .ok (.ldc 91, 2) := by decide +kernel
theorem dX6_readWait_36 : decode cX6_readWait 36 = .ok (.invokevirtual 23, 3) := by decide +kernel
theorem dX6_readWait_39 : decode cX6_readWait 39 = .ok (.ifCond .eq 7, 3) := by decide +kernel
theorem dX6_readWait_42 : decode cX6_readWait 42 = .ok (.iconst 0, 1) := by decide +kernel
theorem dX6_readWait_43 : decode cX6_readWait 43 = .ok (.goto 17, 3) := by decide +kernel
theorem dX6_readWait_46 : decode cX6_readWait 46 = .ok (.aload_n 1, 1) := by decide +kernel
theorem dX6_readWait_47 : decode cX6_readWait 47 = .ok (.ldc 89, 2) := by decide +kernel
theorem dX6_readWait_49 : decode cX6_readWait 49 = .ok (.invokevirtual 23, 3) := by decide +kernel
theorem dX6_readWait_52 : decode cX6_readWait 52 = .ok (.ifCond .eq 7, 3) := by decide +kernel
theorem dX6_readWait_55 : decode cX6_readWait 55 = .ok (.iconst 1, 1) := by decide +kernel
theorem dX6_readWait_56 : decode cX6_readWait 56 = .ok (.goto 4, 3) := by decide +kernel
theorem dX6_readWait_59 : decode cX6_readWait 59 = .ok (.iconst (-1), 1) := by decide +kernel
theorem dX6_readWait_60 : decode cX6_readWait 60 = .ok (.istore 5, 2) := by decide +kernel
theorem dX6_readWait_62 : decode cX6_readWait 62 = .ok (.iload 5, 2) := by decide +kernel
theorem dX6_readWait_64 : decode cX6_readWait 64 = .ok (.iconst (-1), 1) := by decide +kernel
theorem dX6_readWait_65 : decode cX6_readWait 65 = .ok (.if_icmp .ne 12, 3) := by decide +kernel
theorem dX6_readWait_68 : decode cX6_readWait 68 = .ok (.aload_n 0, 1) := by decide +kernel
theorem dX6_readWait_69 : decode cX6_readWait 69 = .ok (.bipush (-2), 2) := by decide +kernel
theorem dX6_readWait_71 : decode cX6_readWait 71 = .ok (.iload 4, 2) := by decide +kernel
theorem dX6_readWait_73 : decode cX6_readWait 73 = .ok (.invokevirtual 58, 3) := by decide +kernel
theorem dX6_readWait_76 : decode cX6_readWait 76 = .ok (.ireturn, 1) := by decide +kernel
theorem dX6_readWait_77 : decode cX6_readWait 77 = .ok (.aload_n 1, 1) := by decide +kernel
theorem dX6_readWait_78 : decode cX6_readWait 78 = .ok (.invokevirtual 68, 3) := by decide +kernel
theorem dX6_readWait_81 : decode cX6_readWait 81 = .ok (.iconst (-1), 1) := by decide +kernel
theorem dX6_readWait_82 : decode cX6_readWait 82 = .ok (.istore 6, 2) := by decide +kernel
theorem dX6_readWait_84 : decode cX6_readWait 84 = .ok (.aload_n 1, 1) := by decide +kernel
theorem dX6_readWait_85 : decode cX6_readWait 85 = .ok (.getfield 15, 3) := by decide +kernel
theorem dX6_readWait_88 : decode cX6_readWait 88 = .ok (.iconst 2, 1) := by decide +kernel
theorem dX6_readWait_89 : decode cX6_readWait 89 = .ok (.if_icmp .ne 19, 3) := by decide +kernel
theorem dX6_readWait_92 : decode cX6_readWait 92 = .ok (.aload_n 0, 1) := by decide +kernel
theorem dX6_readWait_93 : decode cX6_readWait 93 = .ok (.aload_n 1, 1) := by decide +kernel
theorem dX6_readWait_94 : decode cX6_readWait 94 = .ok (.aload_n 2, 1) := by decide +kernel
theorem dX6_readWait_95 : decode cX6_readWait 95 = .ok (.invokevirtual 114, 3) := by decide +kernel
theorem dX6_readWait_98 : decode cX6_readWait 98 = .ok (.istore 6, 2) := by decide +kernel
theorem dX6_readWait_100 : decode cX6_readWait 100 = .ok (.iload 6, 2) := by decide +kernel
theorem dX6_readWait_102 : decode cX6_readWait 102 = .ok (.iconst (-1), 1) := by decide +kernel
theorem dX6_readWait_103 : decode cX6_readWait 103 = .ok (.if_icmp .ne 5, 3) := by decide +kernel
theorem dX6_readWait_106 : decode cX6_readWait 106 = .ok (.iconst 0, 1) := by decide +kernel
theorem dX6_readWait_107 : decode cX6_readWait 107 = .ok (.ireturn, 1) := by decide +kernel
theorem dX6_readWait_108 : decode cX6_readWait 108 = .ok (.aload_n 2, 1) := by decide +kernel
theorem dX6_readWait_109 : decode cX6_readWait 109 = .ok (.aload_n 2, 1) := by decide +kernel
theorem dX6_readWait_110 : decode cX6_readWait 110 = .ok (.getfield 138, 3) := by decide +kernel
theorem dX6_readWait_113 : decode cX6_readWait 113 = .ok (.iload_n 3, 1) := by decide +kernel
theorem dX6_readWait_114 : decode cX6_readWait 114 = .ok (.aaload, 1) := by decide +kernel
theorem dX6_readWait_115 : decode cX6_readWait 115 = .ok (.iload 5, 2) := by decide +kernel
theorem dX6_readWait_117 : decode cX6_readWait 117 = .ok (.iload 6, 2) := by decide +kernel
theorem dX6_readWait_119 : decode cX6_readWait 119 = .ok (.invokevirtual 142, 3) := by decide +kernel
theorem dX6_readWait_122 : decode cX6_readWait 122 = .ok (.ifCond .eq 12, 3) := by decide +kernel
theorem dX6_readWait_125 : decode cX6_readWait 125 = .ok (.aload_n 0, 1) := by decide +kernel
theorem dX6_readWait_126 : decode cX6_readWait 126 = .ok (.bipush (-6), 2) := by decide +kernel
theorem dX6_readWait_128 : decode cX6_readWait 128 = .ok (.iload 4, 2) := by decide +kernel
theorem dX6_readWait_130 : decode cX6_readWait 130 = .ok (.invokevirtual 58, 3) := by decide +kernel
theorem dX6_readWait_133 : decode cX6_readWait 133 = .ok (.ireturn, 1) := by decide +kernel
theorem dX6_readWait_134 : decode cX6_readWait 134 = .ok (.aload_n 2, 1) := by decide +kernel
theorem dX6_readWait_135 : decode cX6_readWait 135 = .ok (.getfield 138, 3) := by decide +kernel
theorem dX6_readWait_138 : decode cX6_readWait 138 = .ok (.iload_n 3, 1) := by decide +kernel
theorem dX6_readWait_139 : decode cX6_readWait 139 = .ok (.aaload, 1) := by decide +kernel
theorem dX6_readWait_140 : decode cX6_readWait 140 = .ok (.iload 5, 2) := by decide +kernel
theorem dX6_readWait_142 : decode cX6_readWait 142 = .ok (.invokevirtual 146, 3) := by decide +kernel
theorem dX6_readWait_145 : decode cX6_readWait 145 = .ok (.iload 6, 2) := by decide +kernel
theorem dX6_readWait_147 : decode cX6_readWait 147 = .ok (.invokevirtual 152, 3) := by decide +kernel
theorem dX6_readWait_150 : decode cX6_readWait 150 = .ok (.iconst 1, 1) := by decide +kernel
theorem dX6_readWait_151 : decode cX6_readWait 151 = .ok (.ireturn, 1) := by decide +kernel
theorem dX6_readTick_0 : decode cX6_readTick 0 = .ok (.aload_n 1, 1) := by decide +kernel
theorem dX6_readTick_1 : decode cX6_readTick 1 = .ok (.invokevirtual 68, 3) := by decide +kernel
theorem dX6_readTick_4 : decode cX6_readTick 4 = .ok (.aload_n 0, 1) := by decide +kernel
theorem dX6_readTick_5 : decode cX6_readTick 5 = .ok (.aload_n 1, 1) := by decide +kernel
theorem dX6_readTick_6 : decode cX6_readTick 6 = .ok (.iconst 1, 1) := by decide +kernel
theorem dX6_readTick_7 : decode cX6_readTick 7 = .ok (.bipush 99, 2) := by decide +kernel
theorem dX6_readTick_9 : decode cX6_readTick 9 = .ok (.invokevirtual 71, 3) := by decide +kernel
theorem dX6_readTick_12 : decode cX6_readTick 12 = .ok (.istore_n 3, 1) := by decide +kernel
theorem dX6_readTick_13 : decode cX6_readTick 13 = .ok (.iload_n 3, 1) := by decide +kernel
theorem dX6_readTick_14 : decode cX6_readTick 14 = .ok (.ifCond .ge 5, 3) := by decide +kernel
theorem dX6_readTick_17 : decode cX6_readTick 17 = .ok (.iconst 0, 1) := by decide +kernel
theorem dX6_readTick_18 : decode cX6_readTick 18 = .ok (.ireturn, 1) := by decide +kernel
theorem dX6_readTick_19 : decode cX6_readTick 19 = .ok (.aload_n 2, 1) := by decide +kernel
theorem dX6_readTick_20 : decode cX6_readTick 20 = .ok (.iload_n 3, 1) := by decide +kernel
theorem dX6_readTick_21 : decode cX6_readTick 21 = .ok (.invokevirtual 157, 3) := by decide +kernel
theorem dX6_readTick_24 : decode cX6_readTick 24 = .ok (.iconst 1, 1) := by decide +kernel
theorem dX6_readTick_25 : decode cX6_readTick 25 = .ok (.ireturn, 1) := by decide +kernel
theorem dX6_readKey_0 : decode cX6_readKey 0 = .ok (.aload_n 1, 1) := by decide +kernel
theorem dX6_readKey_1 : decode cX6_readKey 1 = .ok (.invokevirtual 68, 3) := by decide +kernel
theorem dX6_readKey_4 : decode cX6_readKey 4 = .ok (.aload_n 0, 1) := by decide +kernel
theorem dX6_readKey_5 : decode cX6_readKey 5 = .ok (.aload_n 1, 1) := by decide +kernel
theorem dX6_readKey_6 : decode cX6_readKey 6 = .ok (.iconst 0, 1) := by decide +kernel
theorem dX6_readKey_7 : decode cX6_readKey 7 = .ok (.iconst 2, 1) := by decide +kernel
theorem dX6_readKey_8 : decode cX6_readKey 8 = .ok (.invokevirtual 71, 3) := by decide +kernel
theorem dX6_readKey_11 : decode cX6_readKey 11 = .ok (.istore_n 3, 1) := by decide +kernel
theorem dX6_readKey_12 : decode cX6_readKey 12 = .ok (.iload_n 3, 1) := by decide +kernel
theorem dX6_readKey_13 : decode cX6_readKey 13 = .ok (.ifCond .ge 5, 3) := by decide +kernel
theorem dX6_readKey_16 : decode cX6_readKey 16 = .ok (.iconst 0, 1) := by decide +kernel
theorem dX6_readKey_17 : decode cX6_readKey 17 = .ok (.ireturn, 1) := by decide +kernel
theorem dX6_readKey_18 : decode cX6_readKey 18 = .ok (.aload_n 2, 1) := by decide +kernel
theorem dX6_readKey_19 : decode cX6_readKey 19 = .ok (.iload_n 3, 1) := by decide +kernel
theorem dX6_readKey_20 : decode cX6_readKey 20 = .ok (.invokevirtual 160, 3) := by decide +kernel
theorem dX6_readKey_23 : decode cX6_readKey 23 = .ok (.iconst 1, 1) := by decide +kernel
theorem dX6_readKey_24 : decode cX6_readKey 24 = .ok (.ireturn, 1) := by decide +kernel
theorem dX6_takeSemicolon_0 : decode cX6_takeSemicolon 0 = .ok (.aload_n 1, 1) := by decide +kernel
theorem dX6_takeSemicolon_1 : decode cX6_takeSemicolon 1 = .ok (.getfield 15, 3) := by decide +kernel
theorem dX6_takeSemicolon_4 : decode cX6_takeSemicolon 4 = .ok (.iconst 3, 1) := by decide +kernel
theorem dX6_takeSemicolon_5 : decode cX6_takeSemicolon 5 = .ok (.if_icmp .eq 14, 3) := by decide +kernel
theorem dX6_takeSemicolon_8 : decode cX6_takeSemicolon 8 = .ok (.aload_n 0, 1) := by decide +kernel
theorem dX6_takeSemicolon_9 : decode cX6_takeSemicolon 9 = .ok (.bipush (-2), 2) := by decide +kernel
theorem dX6_takeSemicolon_11 : decode cX6_takeSemicolon 11 = .ok (.aload_n 1, 1) := by decide +kernel
theorem dX6_takeSemicolon_12 : decode cX6_takeSemicolon 12 = .ok (.getfield 55, 3) := by decide +kernel
theorem dX6_takeSemicolon_15 : decode cX6_takeSemicolon 15 = .ok (.invokevirtual 58, 3) := by decide +kernel
theorem dX6_takeSemicolon_18 : decode cX6_takeSemicolon 18 = .ok (.ireturn, 1) := by decide +kernel
theorem dX6_takeSemicolon_19 : decode cX6_takeSemicolon 19 = .ok (.aload_n 1, 1) := by decide +kernel
theorem dX6_takeSemicolon_20 : decode cX6_takeSemicolon 20 = .ok (.invokevirtual 68, 3) := by decide +kernel
theorem dX6_takeSemicolon_23 : decode cX6_takeSemicolon 23 = .ok (.iconst 1, 1) := by decide +kernel
theorem dX6_takeSemicolon_24 : decode cX6_takeSemicolon 24 = .ok (.ireturn, 1) := by decide +kernel
theorem dX6_takeNumber_0 : decode cX6_takeNumber 0 = .ok (.aload_n 1, 1) := by decide +kernel
theorem dX6_takeNumber_1 : decode cX6_takeNumber 1 = .ok (.getfield 15, 3) := by decide +kernel
theorem dX6_takeNumber_4 : decode cX6_takeNumber 4 = .ok (.iconst 1, 1) := by decide +kernel
theorem dX6_takeNumber_5 : decode cX6_takeNumber 5 = .ok (.if_icmp .eq 16, 3) := by decide +kernel
theorem dX6_takeNumber_8 : decode cX6_takeNumber 8 = .ok (.aload_n 0, 1) := by decide +kernel
theorem dX6_takeNumber_9 : decode cX6_takeNumber 9 = .ok (.bipush (-2), 2) := by decide +kernel
theorem dX6_takeNumber_11 : decode cX6_takeNumber 11 = .ok (.aload_n 1, 1) := by decide +kernel
theorem dX6_takeNumber_12 : decode cX6_takeNumber 12 = .ok (.getfield 55, 3) := by decide +kernel
theorem dX6_takeNumber_15 : decode cX6_takeNumber 15 = .ok (.invokevirtual 58, 3) := by decide +kernel
theorem dX6_takeNumber_18 : decode cX6_takeNumber 18 = .ok (.pop, 1) := by decide +kernel
theorem dX6_takeNumber_19 : decode cX6_takeNumber 19 = .ok (.iconst (-1), 1) := by decide +kernel
theorem dX6_takeNumber_20 : decode cX6_takeNumber 20 = .ok (.ireturn, 1) := by decide +kernel
theorem dX6_takeNumber_21 : decode cX6_takeNumber 21 = .ok (.aload_n 1, 1) := by decide +kernel
theorem dX6_takeNumber_22 : decode cX6_takeNumber 22 = .ok (.getfield 163, 3) := by decide +kernel
theorem dX6_takeNumber_25 : decode cX6_takeNumber 25 = .ok (.istore 4, 2) := by decide +kernel
theorem dX6_takeNumber_27 : decode cX6_takeNumber 27 = .ok (.iload 4, 2) := by decide +kernel
theorem dX6_takeNumber_29 : decode cX6_takeNumber 29 = .ok (.iload_n 2, 1) := by decide +kernel
theorem dX6_takeNumber_30 : decode cX6_takeNumber 30 = .ok (.if_icmp .lt 9, 3) := by decide +kernel
theorem dX6_takeNumber_33 : decode cX6_takeNumber 33 = .ok (.iload 4, 2) := by decide +kernel
theorem dX6_takeNumber_35 : decode cX6_takeNumber 35 = .ok (.iload_n 3, 1) := by decide +kernel
theorem dX6_takeNumber_36 : decode cX6_takeNumber 36 = .ok (.if_icmp .le 16, 3) := by decide +kernel
theorem dX6_takeNumber_39 : decode cX6_takeNumber 39 = .ok (.aload_n 0, 1) := by decide +kernel
theorem dX6_takeNumber_40 : decode cX6_takeNumber 40 = .ok (.bipush (-3), 2) := by decide +kernel
theorem dX6_takeNumber_42 : decode cX6_takeNumber 42 = .ok (.aload_n 1, 1) := by decide +kernel
theorem dX6_takeNumber_43 : decode cX6_takeNumber 43 = .ok (.getfield 55, 3) := by decide +kernel
theorem dX6_takeNumber_46 : decode cX6_takeNumber 46 = .ok (.invokevirtual 58, 3) := by decide +kernel
theorem dX6_takeNumber_49 : decode cX6_takeNumber 49 = .ok (.pop, 1) := by decide +kernel
theorem dX6_takeNumber_50 : decode cX6_takeNumber 50 = .ok (.iconst (-1), 1) := by decide +kernel
theorem dX6_takeNumber_51 : decode cX6_takeNumber 51 = .ok (.ireturn, 1) := by decide +kernel
theorem dX6_takeNumber_52 : decode cX6_takeNumber 52 = .ok (.aload_n 1, 1) := by decide +kernel
theorem dX6_takeNumber_53 : decode cX6_takeNumber 53 = .ok (.invokevirtual 68, 3) := by decide +kernel
theorem dX6_takeNumber_56 : decode cX6_takeNumber 56 = .ok (.iload 4, 2) := by decide +kernel
theorem dX6_takeNumber_58 : decode cX6_takeNumber 58 = .ok (.ireturn, 1) := by decide +kernel
theorem dX6_takeKnownCard_0 : decode cX6_takeKnownCard 0 = .ok (.aload_n 0, 1) := by decide +kernel
theorem dX6_takeKnownCard_1 : decode cX6_takeKnownCard 1 = .ok (.aload_n 1, 1) := by decide +kernel
theorem dX6_takeKnownCard_2 : decode cX6_takeKnownCard 2 = .ok (.invokevirtual 100, 3) := by decide +kernel
theorem dX6_takeKnownCard_5 : decode cX6_takeKnownCard 5 = .ok (.ifCond .ne 5, 3) := by decide +kernel
theorem dX6_takeKnownCard_8 : decode cX6_takeKnownCard 8 = .ok (.iconst (-1), 1) := by decide +kernel
theorem dX6_takeKnownCard_9 : decode cX6_takeKnownCard 9 = .ok (.ireturn, 1) := by decide +kernel
theorem dX6_takeKnownCard_10 : decode cX6_takeKnownCard 10 = .ok (.aload_n 2, 1) := by decide +kernel
theorem dX6_takeKnownCard_11 : decode cX6_takeKnownCard 11 = .ok (.aload_n 1, 1) := by decide +kernel
theorem dX6_takeKnownCard_12 : decode cX6_takeKnownCard 12 = .ok (.getfield 103, 3) := by decide +kernel
theorem dX6_takeKnownCard_15 : decode cX6_takeKnownCard 15 = .ok (.invokevirtual 106, 3) := by decide +kernel
theorem dX6_takeKnownCard_18 : decode cX6_takeKnownCard 18 = .ok (.istore_n 3, 1) := by decide +kernel
theorem dX6_takeKnownCard_19 : decode cX6_takeKnownCard 19 = .ok (.iload_n 3, 1) := by decide +kernel
theorem dX6_takeKnownCard_20 : decode cX6_takeKnownCard 20 = .ok (.iconst (-1), 1) := by decide +kernel
theorem dX6_takeKnownCard_21 : decode cX6_takeKnownCard 21 = .ok (.if_icmp .ne 16, 3) := by decide +kernel
theorem dX6_takeKnownCard_24 : decode cX6_takeKnownCard 24 = .ok (.aload_n 0, 1) := by decide +kernel
theorem dX6_takeKnownCard_25 : decode cX6_takeKnownCard 25 = .ok (.bipush (-4), 2) := by decide +kernel
theorem dX6_takeKnownCard_27 : decode cX6_takeKnownCard 27 = .ok (.aload_n 1, 1) := by decide +kernel
theorem dX6_takeKnownCard_28 : decode cX6_takeKnownCard 28 = .ok (.getfield 55, 3) := by decide +kernel
theorem dX6_takeKnownCard_31 : decode cX6_takeKnownCard 31 = .ok (.invokevirtual 58, 3) := by decide +kernel
theorem dX6_takeKnownCard_34 : decode cX6_takeKnownCard 34 = .ok (.pop, 1) := by decide +kernel
theorem dX6_takeKnownCard_35 : decode cX6_takeKnownCard 35 = .ok (.iconst (-1), 1) := by decide +kernel
theorem dX6_takeKnownCard_36 : decode cX6_takeKnownCard 36 = .ok (.ireturn, 1) := by decide +kernel
theorem dX6_takeKnownCard_37 : decode cX6_takeKnownCard 37 = .ok (.aload_n 1, 1) := by decide +kernel
theorem dX6_takeKnownCard_38 : decode cX6_takeKnownCard 38 = .ok (.invokevirtual 68, 3) := by decide +kernel
theorem dX6_takeKnownCard_41 : decode cX6_takeKnownCard 41 = .ok (.iload_n 3, 1) := by decide +kernel
theorem dX6_takeKnownCard_42 : decode cX6_takeKnownCard 42 = .ok (.ireturn, 1) := by decide +kernel
theorem dX6_isNameNext_0 : decode cX6_isNameNext 0 = .ok (.aload_n 1, 1) := by decide +kernel
theorem dX6_isNameNext_1 : decode cX6_isNameNext 1 = .ok (.getfield 15, 3) := by decide +kernel
theorem dX6_isNameNext_4 : decode cX6_isNameNext 4 = .ok (.iconst 2, 1) := by decide +kernel
theorem dX6_isNameNext_5 : decode cX6_isNameNext 5 = .ok (.if_icmp .eq 14, 3) := by decide +kernel
theorem dX6_isNameNext_8 : decode cX6_isNameNext 8 = .ok (.aload_n 0, 1) := by decide +kernel
theorem dX6_isNameNext_9 : decode cX6_isNameNext 9 = .ok (.bipush (-2), 2) := by decide +kernel
theorem dX6_isNameNext_11 : decode cX6_isNameNext 11 = .ok (.aload_n 1, 1) := by decide +kernel
theorem dX6_isNameNext_12 : decode cX6_isNameNext 12 = .ok (.getfield 55, 3) := by decide +kernel
theorem dX6_isNameNext_15 : decode cX6_isNameNext 15 = .ok (.invokevirtual 58, 3) := by decide +kernel
theorem dX6_isNameNext_18 : decode cX6_isNameNext 18 = .ok (.ireturn, 1) := by decide +kernel
theorem dX6_isNameNext_19 : decode cX6_isNameNext 19 = .ok (.aload_n 1, 1) := by decide +kernel
theorem dX6_isNameNext_20 : decode cX6_isNameNext 20 = .ok (.getfield 166, 3) := by decide +kernel
theorem dX6_isNameNext_23 : decode cX6_isNameNext 23 = .ok (.bipush 6, 2) := by decide +kernel
theorem dX6_isNameNext_25 : decode cX6_isNameNext 25 = .ok (.if_icmp .le 14, 3) := by decide +kernel
theorem dX6_isNameNext_28 : decode cX6_isNameNext 28 = .ok (.aload_n 0, 1) := by decide +kernel
theorem dX6_isNameNext_29 : decode cX6_isNameNext 29 = .ok (.bipush (-3), 2) := by decide +kernel
theorem dX6_isNameNext_31 : decode cX6_isNameNext 31 = .ok (.aload_n 1, 1) := by decide +kernel
theorem dX6_isNameNext_32 : decode cX6_isNameNext 32 = .ok (.getfield 55, 3) := by decide +kernel
theorem dX6_isNameNext_35 : decode cX6_isNameNext 35 = .ok (.invokevirtual 58, 3) := by decide +kernel
theorem dX6_isNameNext_38 : decode cX6_isNameNext 38 = .ok (.ireturn, 1) := by decide +kernel
theorem dX6_isNameNext_39 : decode cX6_isNameNext 39 = .ok (.iconst 1, 1) := by decide +kernel
theorem dX6_isNameNext_40 : decode cX6_isNameNext 40 = .ok (.ireturn, 1) := by decide +kernel
theorem dX6_fail_0 : decode cX6_fail 0 = .ok (.aload_n 0, 1) := by decide +kernel
theorem dX6_fail_1 : decode cX6_fail 1 = .ok (.iload_n 1, 1) := by decide +kernel
theorem dX6_fail_2 : decode cX6_fail 2 = .ok (.putfield 169, 3) := by decide +kernel
theorem dX6_fail_5 : decode cX6_fail 5 = .ok (.aload_n 0, 1) := by decide +kernel
theorem dX6_fail_6 : decode cX6_fail 6 = .ok (.iload_n 2, 1) := by decide +kernel
theorem dX6_fail_7 : decode cX6_fail 7 = .ok (.putfield 172, 3) := by decide +kernel
theorem dX6_fail_10 : decode cX6_fail 10 = .ok (.iconst 0, 1) := by decide +kernel
theorem dX6_fail_11 : decode cX6_fail 11 = .ok (.ireturn, 1) := by decide +kernel
theorem dX7_init_0 : decode cX7_init 0 = .ok (.aload_n 0, 1) := by decide +kernel
theorem dX7_init_1 : decode cX7_init 1 = .ok (.invokespecial 1, 3) := by decide +kernel
theorem dX7_init_4 : decode cX7_init 4 = .ok (.aload_n 0, 1) := by decide +kernel
theorem dX7_init_5 : decode cX7_init 5 = .ok (.new 7, 3) := by decide +kernel
theorem dX7_init_8 : decode cX7_init 8 = .ok (.dup, 1) := by decide +kernel
theorem dX7_init_9 : decode cX7_init 9 = .ok (.invokespecial 9, 3) := by decide +kernel
theorem dX7_init_12 : decode cX7_init 12 = .ok (.putfield 10, 3) := by decide +kernel
theorem dX7_init_15 : decode cX7_init 15 = .ok (.aload_n 0, 1) := by decide +kernel
theorem dX7_init_16 : decode cX7_init 16 = .ok (.new 16, 3) := by decide +kernel
theorem dX7_init_19 : decode cX7_init 19 = .ok (.dup, 1) := by decide +kernel
theorem dX7_init_20 : decode cX7_init 20 = .ok (.invokespecial 18, 3) := by decide +kernel
theorem dX7_init_23 : decode cX7_init 23 = .ok (.putfield 19, 3) := by decide +kernel
theorem dX7_init_26 : decode cX7_init 26 = .ok (.aload_n 0, 1) := by decide +kernel
theorem dX7_init_27 : decode cX7_init 27 = .ok (.new 23, 3) := by decide +kernel
theorem dX7_init_30 : decode cX7_init 30 = .ok (.dup, 1) := by decide +kernel
theorem dX7_init_31 : decode cX7_init 31 = .ok (.invokespecial 25, 3) := by decide +kernel
theorem dX7_init_34 : decode cX7_init 34 = .ok (.putfield 26, 3) := by decide +kernel
theorem dX7_init_37 : decode cX7_init 37 = .ok (.aload_n 0, 1) := by decide +kernel
theorem dX7_init_38 : decode cX7_init 38 = .ok (.new 23, 3) := by decide +kernel
theorem dX7_init_41 : decode cX7_init 41 = .ok (.dup, 1) := by decide +kernel
theorem dX7_init_42 : decode cX7_init 42 = .ok (.invokespecial 25, 3) := by decide +kernel
theorem dX7_init_45 : decode cX7_init 45 = .ok (.putfield 30, 3) := by decide +kernel
theorem dX7_init_48 : decode cX7_init 48 = .ok (.aload_n 0, 1) := by decide +kernel
theorem dX7_init_49 : decode cX7_init 49 = .ok (.new 23, 3) := by decide +kernel
theorem dX7_init_52 : decode cX7_init 52 = .ok (.dup, 1) := by decide +kernel
theorem dX7_init_53 : decode cX7_init 53 = .ok (.invokespecial 25, 3) := by decide +kernel
theorem dX7_init_56 : decode cX7_init 56 = .ok (.putfield 33, 3) := by decide +kernel
theorem dX7_init_59 : decode cX7_init 59 = .ok (.aload_n 0, 1) := by decide +kernel
theorem dX7_init_60 : decode cX7_init 60 = .ok (.new 36, 3) := by decide +kernel
theorem dX7_init_63 : decode cX7_init 63 = .ok (.dup, 1) := by decide +kernel
theorem dX7_init_64 : decode cX7_init 64 = .ok (.invokespecial 38, 3) := by decide +kernel
theorem dX7_init_67 : decode cX7_init 67 = .ok (.putfield 39, 3) := by decide +kernel
theorem dX7_init_70 : decode cX7_init 70 = .ok (.aload_n 0, 1) := by decide +kernel
theorem dX7_init_71 : decode cX7_init 71 = .ok (.iconst (-1), 1) := by decide +kernel
theorem dX7_init_72 : decode cX7_init 72 = .ok (.putfield 43, 3) := by decide +kernel
theorem dX7_init_75 : decode cX7_init 75 = .ok (.return_, 1) := by decide +kernel
theorem dX7_append_0 : decode cX7_append 0 = .ok (.aload_n 0, 1) := by decide +kernel
theorem dX7_append_1 : decode cX7_append 1 = .ok (.getfield 10, 3) := by decide +kernel
theorem dX7_append_4 : decode cX7_append 4 = .ok (.getfield 47, 3) := by decide +kernel
theorem dX7_append_7 : decode cX7_append 7 = .ok (.sipush 480, 3) := by decide +kernel
theorem dX7_append_10 : decode cX7_append 10 = .ok (.if_icmp .le 5, 3) := by decide +kernel
theorem dX7_append_13 : decode cX7_append 13 = .ok (.iconst (-1), 1) := by decide +kernel
theorem dX7_append_14 : decode cX7_append 14 = .ok (.ireturn, 1) := by decide +kernel
theorem dX7_append_15 : decode cX7_append 15 = .ok (.aload_n 0, 1) := by decide +kernel
theorem dX7_append_16 : decode cX7_append 16 = .ok (.getfield 10, 3) := by decide +kernel
theorem dX7_append_19 : decode cX7_append 19 = .ok (.iload_n 1, 1) := by decide +kernel
theorem dX7_append_20 : decode cX7_append 20 = .ok (.invokevirtual 50, 3) := by decide +kernel
theorem dX7_append_23 : decode cX7_append 23 = .ok (.aload_n 0, 1) := by decide +kernel
theorem dX7_append_24 : decode cX7_append 24 = .ok (.getfield 10, 3) := by decide +kernel
theorem dX7_append_27 : decode cX7_append 27 = .ok (.iload_n 2, 1) := by decide +kernel
theorem dX7_append_28 : decode cX7_append 28 = .ok (.invokevirtual 50, 3) := by decide +kernel
theorem dX7_append_31 : decode cX7_append 31 = .ok (.aload_n 0, 1) := by decide +kernel
theorem dX7_append_32 : decode cX7_append 32 = .ok (.getfield 10, 3) := by decide +kernel
theorem dX7_append_35 : decode cX7_append 35 = .ok (.iload_n 3, 1) := by decide +kernel
theorem dX7_append_36 : decode cX7_append 36 = .ok (.invokevirtual 50, 3) := by decide +kernel
theorem dX7_append_39 : decode cX7_append 39 = .ok (.aload_n 0, 1) := by decide +kernel
theorem dX7_append_40 : decode cX7_append 40 = .ok (.getfield 10, 3) := by decide +kernel
theorem dX7_append_43 : decode cX7_append 43 = .ok (.iload 4, 2) := by decide +kernel
theorem dX7_append_45 : decode cX7_append 45 = .ok (.invokevirtual 50, 3) := by decide +kernel
theorem dX7_append_48 : decode cX7_append 48 = .ok (.aload_n 0, 1) := by decide +kernel
theorem dX7_append_49 : decode cX7_append 49 = .ok (.getfield 10, 3) := by decide +kernel
theorem dX7_append_52 : decode cX7_append 52 = .ok (.iload 5, 2) := by decide +kernel
theorem dX7_append_54 : decode cX7_append 54 = .ok (.invokevirtual 50, 3) := by decide +kernel
theorem dX7_append_57 : decode cX7_append 57 = .ok (.aload_n 0, 1) := by decide +kernel
theorem dX7_append_58 : decode cX7_append 58 = .ok (.getfield 10, 3) := by decide +kernel
theorem dX7_append_61 : decode cX7_append 61 = .ok (.getfield 47, 3) := by decide +kernel
theorem dX7_append_64 : decode cX7_append 64 = .ok (.ireturn, 1) := by decide +kernel
theorem dX7_load_0 : decode cX7_load 0 = .ok (.aload_n 0, 1) := by decide +kernel
theorem dX7_load_1 : decode cX7_load 1 = .ok (.iload_n 1, 1) := by decide +kernel
theorem dX7_load_2 : decode cX7_load 2 = .ok (.invokevirtual 54, 3) := by decide +kernel
theorem dX7_load_5 : decode cX7_load 5 = .ok (.aload_n 0, 1) := by decide +kernel
theorem dX7_load_6 : decode cX7_load 6 = .ok (.getfield 33, 3) := by decide +kernel
theorem dX7_load_9 : decode cX7_load 9 = .ok (.aload_n 0, 1) := by decide +kernel
theorem dX7_load_10 : decode cX7_load 10 = .ok (.getfield 30, 3) := by decide +kernel
theorem dX7_load_13 : decode cX7_load 13 = .ok (.invokevirtual 57, 3) := by decide +kernel
theorem dX7_load_16 : decode cX7_load 16 = .ok (.aload_n 0, 1) := by decide +kernel
theorem dX7_load_17 : decode cX7_load 17 = .ok (.getfield 10, 3) := by decide +kernel
theorem dX7_load_20 : decode cX7_load 20 = .ok (.iload_n 1, 1) := by decide +kernel
theorem dX7_load_21 : decode cX7_load 21 = .ok (.invokevirtual 61, 3) := by decide +kernel
theorem dX7_load_24 : decode cX7_load 24 = .ok (.aload_n 0, 1) := by decide +kernel
theorem dX7_load_25 : decode cX7_load 25 = .ok (.getfield 19, 3) := by decide +kernel
theorem dX7_load_28 : decode cX7_load 28 = .ok (.aload_n 0, 1) := by decide +kernel
theorem dX7_load_29 : decode cX7_load 29 = .ok (.getfield 10, 3) := by decide +kernel
theorem dX7_load_32 : decode cX7_load 32 = .ok (.aload_n 0, 1) := by decide +kernel
theorem dX7_load_33 : decode cX7_load 33 = .ok (.getfield 33, 3) := by decide +kernel
theorem dX7_load_36 : decode cX7_load 36 = .ok (.invokevirtual 64, 3) := by decide +kernel
theorem dX7_load_39 : decode cX7_load 39 = .ok (.istore_n 2, 1) := by decide +kernel
theorem dX7_load_40 : decode cX7_load 40 = .ok (.aload_n 0, 1) := by decide +kernel
theorem dX7_load_41 : decode cX7_load 41 = .ok (.getfield 10, 3) := by decide +kernel
theorem dX7_load_44 : decode cX7_load 44 = .ok (.iconst 0, 1) := by decide +kernel
theorem dX7_load_45 : decode cX7_load 45 = .ok (.putfield 47, 3) := by decide +kernel
theorem dX7_load_48 : decode cX7_load 48 = .ok (.iload_n 2, 1) := by decide +kernel
theorem dX7_load_49 : decode cX7_load 49 = .ok (.ifCond .ne 22, 3) := by decide +kernel
theorem dX7_load_52 : decode cX7_load 52 = .ok (.aload_n 0, 1) := by decide +kernel
theorem dX7_load_53 : decode cX7_load 53 = .ok (.aload_n 0, 1) := by decide +kernel
theorem dX7_load_54 : decode cX7_load 54 = .ok (.getfield 19, 3) := by decide +kernel
theorem dX7_load_57 : decode cX7_load 57 = .ok (.getfield 68, 3) := by decide +kernel
theorem dX7_load_60 : decode cX7_load 60 = .ok (.putfield 43, 3) := by decide +kernel
theorem dX7_load_63 : decode cX7_load 63 = .ok (.aload_n 0, 1) := by decide +kernel
theorem dX7_load_64 : decode cX7_load 64 = .ok (.getfield 19, 3) := by decide +kernel
theorem dX7_load_67 : decode cX7_load 67 = .ok (.getfield 69, 3) := by decide +kernel
theorem dX7_load_70 : decode cX7_load 70 = .ok (.ireturn, 1) := by decide +kernel
theorem dX7_load_71 : decode cX7_load 71 = .ok (.aload_n 0, 1) := by decide +kernel
theorem dX7_load_72 : decode cX7_load 72 = .ok (.iconst (-1), 1) := by decide +kernel
theorem dX7_load_73 : decode cX7_load 73 = .ok (.putfield 43, 3) := by decide +kernel
theorem dX7_load_76 : decode cX7_load 76 = .ok (.aload_n 0, 1) := by decide +kernel
theorem dX7_load_77 : decode cX7_load 77 = .ok (.getfield 39, 3) := by decide +kernel
theorem dX7_load_80 : decode cX7_load 80 = .ok (.aload_n 0, 1) := by decide +kernel
theorem dX7_load_81 : decode cX7_load 81 = .ok (.getfield 26, 3) := by decide +kernel
theorem dX7_load_84 : decode cX7_load 84 = .ok (.invokevirtual 72, 3) := by decide +kernel
theorem dX7_load_87 : decode cX7_load 87 = .ok (.aload_n 0, 1) := by decide +kernel
theorem dX7_load_88 : decode cX7_load 88 = .ok (.getfield 26, 3) := by decide +kernel
theorem dX7_load_91 : decode cX7_load 91 = .ok (.aload_n 0, 1) := by decide +kernel
theorem dX7_load_92 : decode cX7_load 92 = .ok (.getfield 33, 3) := by decide +kernel
theorem dX7_load_95 : decode cX7_load 95 = .ok (.invokevirtual 57, 3) := by decide +kernel
theorem dX7_load_98 : decode cX7_load 98 = .ok (.aload_n 0, 1) := by decide +kernel
theorem dX7_load_99 : decode cX7_load 99 = .ok (.getfield 26, 3) := by decide +kernel
theorem dX7_load_102 : decode cX7_load 102 = .ok (.getfield 75, 3) := by decide +kernel
theorem dX7_load_105 : decode cX7_load 105 = .ok (.ireturn, 1) := by decide +kernel
theorem dX7_errorOffset_0 : decode cX7_errorOffset 0 = .ok (.aload_n 0, 1) := by decide +kernel
theorem dX7_errorOffset_1 : decode cX7_errorOffset 1 = .ok (.getfield 43, 3) := by decide +kernel
theorem dX7_errorOffset_4 : decode cX7_errorOffset 4 = .ok (.ireturn, 1) := by decide +kernel
theorem dX7_state_0 : decode cX7_state 0 = .ok (.iload_n 1, 1) := by decide +kernel
theorem dX7_state_1 : decode cX7_state 1 = .ok (.ifCond .lt 9, 3) := by decide +kernel
theorem dX7_state_4 : decode cX7_state 4 = .ok (.iload_n 1, 1) := by decide +kernel
theorem dX7_state_5 : decode cX7_state 5 = .ok (.bipush 16, 2) := by decide +kernel
theorem dX7_state_7 : decode cX7_state 7 = .ok (.if_icmp .lt 13, 3) := by decide +kernel
theorem dX7_state_10 : decode cX7_state 10 = .ok (.new 78, 3) := by decide +kernel
theorem dX7_state_13 : decode cX7_state 13 = .ok (.dup, 1) := by decide +kernel
theorem dX7_state_14 : decode cX7_state 14 = .ok (.ldc 80, 2) := by decide +kernel
theorem dX7_state_16 : decode cX7_state 16 = .ok (.invokespecial 82, 3) := by decide +kernel
theorem dX7_state_19 : decode cX7_state 19 = .ok (.athrow, 1) := by decide +kernel
theorem dX7_state_20 : decode cX7_state 20 = .ok (.aload_n 0, 1) := by decide +kernel
theorem dX7_state_21 : decode cX7_state 21 = .ok (.getfield 26, 3) := by decide +kernel
theorem dX7_state_24 : decode cX7_state 24 = .ok (.iload_n 1, 1) := by decide +kernel
theorem dX7_state_25 : decode cX7_state 25 = .ok (.invokevirtual 85, 3) := by decide +kernel
theorem dX7_state_28 : decode cX7_state 28 = .ok (.ireturn, 1) := by decide +kernel
theorem dX7_find_0 : decode cX7_find 0 = .ok (.aload_n 0, 1) := by decide +kernel
theorem dX7_find_1 : decode cX7_find 1 = .ok (.iload_n 1, 1) := by decide +kernel
theorem dX7_find_2 : decode cX7_find 2 = .ok (.invokevirtual 54, 3) := by decide +kernel
theorem dX7_find_5 : decode cX7_find 5 = .ok (.aload_n 0, 1) := by decide +kernel
theorem dX7_find_6 : decode cX7_find 6 = .ok (.getfield 26, 3) := by decide +kernel
theorem dX7_find_9 : decode cX7_find 9 = .ok (.aload_n 0, 1) := by decide +kernel
theorem dX7_find_10 : decode cX7_find 10 = .ok (.getfield 10, 3) := by decide +kernel
theorem dX7_find_13 : decode cX7_find 13 = .ok (.iload_n 1, 1) := by decide +kernel
theorem dX7_find_14 : decode cX7_find 14 = .ok (.invokevirtual 89, 3) := by decide +kernel
theorem dX7_find_17 : decode cX7_find 17 = .ok (.invokevirtual 92, 3) := by decide +kernel
theorem dX7_find_20 : decode cX7_find 20 = .ok (.ireturn, 1) := by decide +kernel
theorem dX7_gate_0 : decode cX7_gate 0 = .ok (.aload_n 0, 1) := by decide +kernel
theorem dX7_gate_1 : decode cX7_gate 1 = .ok (.iload_n 1, 1) := by decide +kernel
theorem dX7_gate_2 : decode cX7_gate 2 = .ok (.invokevirtual 95, 3) := by decide +kernel
theorem dX7_gate_5 : decode cX7_gate 5 = .ok (.iload_n 2, 1) := by decide +kernel
theorem dX7_gate_6 : decode cX7_gate 6 = .ok (.ifCond .lt 9, 3) := by decide +kernel
theorem dX7_gate_9 : decode cX7_gate 9 = .ok (.iload_n 2, 1) := by decide +kernel
theorem dX7_gate_10 : decode cX7_gate 10 = .ok (.bipush 9, 2) := by decide +kernel
theorem dX7_gate_12 : decode cX7_gate 12 = .ok (.if_icmp .lt 13, 3) := by decide +kernel
theorem dX7_gate_15 : decode cX7_gate 15 = .ok (.new 78, 3) := by decide +kernel
theorem dX7_gate_18 : decode cX7_gate 18 = .ok (.dup, 1) := by decide +kernel
theorem dX7_gate_19 : decode cX7_gate 19 = .ok (.ldc 80, 2) := by decide +kernel
theorem dX7_gate_21 : decode cX7_gate 21 = .ok (.invokespecial 82, 3) := by decide +kernel
theorem dX7_gate_24 : decode cX7_gate 24 = .ok (.athrow, 1) := by decide +kernel
theorem dX7_gate_25 : decode cX7_gate 25 = .ok (.aload_n 0, 1) := by decide +kernel
theorem dX7_gate_26 : decode cX7_gate 26 = .ok (.getfield 26, 3) := by decide +kernel
theorem dX7_gate_29 : decode cX7_gate 29 = .ok (.getfield 98, 3) := by decide +kernel
theorem dX7_gate_32 : decode cX7_gate 32 = .ok (.iload_n 1, 1) := by decide +kernel
theorem dX7_gate_33 : decode cX7_gate 33 = .ok (.aaload, 1) := by decide +kernel
theorem dX7_gate_34 : decode cX7_gate 34 = .ok (.iload_n 2, 1) := by decide +kernel
theorem dX7_gate_35 : decode cX7_gate 35 = .ok (.invokevirtual 102, 3) := by decide +kernel
theorem dX7_gate_38 : decode cX7_gate 38 = .ok (.ireturn, 1) := by decide +kernel
theorem dX7_card_0 : decode cX7_card 0 = .ok (.aload_n 0, 1) := by decide +kernel
theorem dX7_card_1 : decode cX7_card 1 = .ok (.iload_n 1, 1) := by decide +kernel
theorem dX7_card_2 : decode cX7_card 2 = .ok (.invokevirtual 107, 3) := by decide +kernel
theorem dX7_card_5 : decode cX7_card 5 = .ok (.iload_n 2, 1) := by decide +kernel
theorem dX7_card_6 : decode cX7_card 6 = .ok (.ifCond .lt 9, 3) := by decide +kernel
theorem dX7_card_9 : decode cX7_card 9 = .ok (.iload_n 2, 1) := by decide +kernel
theorem dX7_card_10 : decode cX7_card 10 = .ok (.bipush 7, 2) := by decide +kernel
theorem dX7_card_12 : decode cX7_card 12 = .ok (.if_icmp .lt 13, 3) := by decide +kernel
theorem dX7_card_15 : decode cX7_card 15 = .ok (.new 78, 3) := by decide +kernel
theorem dX7_card_18 : decode cX7_card 18 = .ok (.dup, 1) := by decide +kernel
theorem dX7_card_19 : decode cX7_card 19 = .ok (.ldc 80, 2) := by decide +kernel
theorem dX7_card_21 : decode cX7_card 21 = .ok (.invokespecial 82, 3) := by decide +kernel
theorem dX7_card_24 : decode cX7_card 24 = .ok (.athrow, 1) := by decide +kernel
theorem dX7_card_25 : decode cX7_card 25 = .ok (.aload_n 0, 1) := by decide +kernel
theorem dX7_card_26 : decode cX7_card 26 = .ok (.getfield 26, 3) := by decide +kernel
theorem dX7_card_29 : decode cX7_card 29 = .ok (.iload_n 1, 1) := by decide +kernel
theorem dX7_card_30 : decode cX7_card 30 = .ok (.iload_n 2, 1) := by decide +kernel
theorem dX7_card_31 : decode cX7_card 31 = .ok (.invokevirtual 110, 3) := by decide +kernel
theorem dX7_card_34 : decode cX7_card 34 = .ok (.ireturn, 1) := by decide +kernel
theorem dX7_inLine_0 : decode cX7_inLine 0 = .ok (.aload_n 0, 1) := by decide +kernel
theorem dX7_inLine_1 : decode cX7_inLine 1 = .ok (.iload_n 1, 1) := by decide +kernel
theorem dX7_inLine_2 : decode cX7_inLine 2 = .ok (.invokevirtual 95, 3) := by decide +kernel
theorem dX7_inLine_5 : decode cX7_inLine 5 = .ok (.iload_n 2, 1) := by decide +kernel
theorem dX7_inLine_6 : decode cX7_inLine 6 = .ok (.invokestatic 114, 3) := by decide +kernel
theorem dX7_inLine_9 : decode cX7_inLine 9 = .ok (.aload_n 0, 1) := by decide +kernel
theorem dX7_inLine_10 : decode cX7_inLine 10 = .ok (.getfield 26, 3) := by decide +kernel
theorem dX7_inLine_13 : decode cX7_inLine 13 = .ok (.getfield 98, 3) := by decide +kernel
theorem dX7_inLine_16 : decode cX7_inLine 16 = .ok (.iload_n 1, 1) := by decide +kernel
theorem dX7_inLine_17 : decode cX7_inLine 17 = .ok (.aaload, 1) := by decide +kernel
theorem dX7_inLine_18 : decode cX7_inLine 18 = .ok (.iload_n 2, 1) := by decide +kernel
theorem dX7_inLine_19 : decode cX7_inLine 19 = .ok (.invokevirtual 117, 3) := by decide +kernel
theorem dX7_inLine_22 : decode cX7_inLine 22 = .ok (.astore 4, 2) := by decide +kernel
theorem dX7_inLine_24 : decode cX7_inLine 24 = .ok (.aload 4, 2) := by decide +kernel
theorem dX7_inLine_26 : decode cX7_inLine 26 = .ok (.iload_n 3, 1) := by decide +kernel
theorem dX7_inLine_27 : decode cX7_inLine 27 = .ok (.invokevirtual 121, 3) := by decide +kernel
theorem dX7_inLine_30 : decode cX7_inLine 30 = .ok (.ifCond .ne 13, 3) := by decide +kernel
theorem dX7_inLine_33 : decode cX7_inLine 33 = .ok (.new 127, 3) := by decide +kernel
theorem dX7_inLine_36 : decode cX7_inLine 36 = .ok (.dup, 1) := by decide +kernel
theorem dX7_inLine_37 : decode cX7_inLine 37 = .ok (.ldc 129, 2) := by decide +kernel
theorem dX7_inLine_39 : decode cX7_inLine 39 = .ok (.invokespecial 131, 3) := by decide +kernel
theorem dX7_inLine_42 : decode cX7_inLine 42 = .ok (.athrow, 1) := by decide +kernel
theorem dX7_inLine_43 : decode cX7_inLine 43 = .ok (.aload 4, 2) := by decide +kernel
theorem dX7_inLine_45 : decode cX7_inLine 45 = .ok (.iload_n 3, 1) := by decide +kernel
theorem dX7_inLine_46 : decode cX7_inLine 46 = .ok (.invokevirtual 132, 3) := by decide +kernel
theorem dX7_inLine_49 : decode cX7_inLine 49 = .ok (.ireturn, 1) := by decide +kernel
theorem dX7_why_0 : decode cX7_why 0 = .ok (.aload_n 0, 1) := by decide +kernel
theorem dX7_why_1 : decode cX7_why 1 = .ok (.iload_n 1, 1) := by decide +kernel
theorem dX7_why_2 : decode cX7_why 2 = .ok (.invokevirtual 107, 3) := by decide +kernel
theorem dX7_why_5 : decode cX7_why 5 = .ok (.iload_n 2, 1) := by decide +kernel
theorem dX7_why_6 : decode cX7_why 6 = .ok (.invokestatic 114, 3) := by decide +kernel
theorem dX7_why_9 : decode cX7_why 9 = .ok (.aload_n 0, 1) := by decide +kernel
theorem dX7_why_10 : decode cX7_why 10 = .ok (.getfield 26, 3) := by decide +kernel
theorem dX7_why_13 : decode cX7_why 13 = .ok (.getfield 135, 3) := by decide +kernel
theorem dX7_why_16 : decode cX7_why 16 = .ok (.iload_n 1, 1) := by decide +kernel
theorem dX7_why_17 : decode cX7_why 17 = .ok (.aaload, 1) := by decide +kernel
theorem dX7_why_18 : decode cX7_why 18 = .ok (.iload_n 2, 1) := by decide +kernel
theorem dX7_why_19 : decode cX7_why 19 = .ok (.invokevirtual 139, 3) := by decide +kernel
theorem dX7_why_22 : decode cX7_why 22 = .ok (.ireturn, 1) := by decide +kernel
theorem dX7_whyNotJoin_0 : decode cX7_whyNotJoin 0 = .ok (.aload_n 0, 1) := by decide +kernel
theorem dX7_whyNotJoin_1 : decode cX7_whyNotJoin 1 = .ok (.iload_n 1, 1) := by decide +kernel
theorem dX7_whyNotJoin_2 : decode cX7_whyNotJoin 2 = .ok (.invokevirtual 95, 3) := by decide +kernel
theorem dX7_whyNotJoin_5 : decode cX7_whyNotJoin 5 = .ok (.aload_n 0, 1) := by decide +kernel
theorem dX7_whyNotJoin_6 : decode cX7_whyNotJoin 6 = .ok (.iload_n 3, 1) := by decide +kernel
theorem dX7_whyNotJoin_7 : decode cX7_whyNotJoin 7 = .ok (.invokevirtual 144, 3) := by decide +kernel
theorem dX7_whyNotJoin_10 : decode cX7_whyNotJoin 10 = .ok (.iload_n 2, 1) := by decide +kernel
theorem dX7_whyNotJoin_11 : decode cX7_whyNotJoin 11 = .ok (.invokestatic 114, 3) := by decide +kernel
theorem dX7_whyNotJoin_14 : decode cX7_whyNotJoin 14 = .ok (.aload_n 0, 1) := by decide +kernel
theorem dX7_whyNotJoin_15 : decode cX7_whyNotJoin 15 = .ok (.getfield 26, 3) := by decide +kernel
theorem dX7_whyNotJoin_18 : decode cX7_whyNotJoin 18 = .ok (.aload_n 0, 1) := by decide +kernel
theorem dX7_whyNotJoin_19 : decode cX7_whyNotJoin 19 = .ok (.getfield 26, 3) := by decide +kernel
theorem dX7_whyNotJoin_22 : decode cX7_whyNotJoin 22 = .ok (.getfield 98, 3) := by decide +kernel
theorem dX7_whyNotJoin_25 : decode cX7_whyNotJoin 25 = .ok (.iload_n 1, 1) := by decide +kernel
theorem dX7_whyNotJoin_26 : decode cX7_whyNotJoin 26 = .ok (.aaload, 1) := by decide +kernel
theorem dX7_whyNotJoin_27 : decode cX7_whyNotJoin 27 = .ok (.iload_n 2, 1) := by decide +kernel
theorem dX7_whyNotJoin_28 : decode cX7_whyNotJoin 28 = .ok (.iload_n 3, 1) := by decide +kernel
theorem dX7_whyNotJoin_29 : decode cX7_whyNotJoin 29 = .ok (.invokevirtual 147, 3) := by decide +kernel
theorem dX7_whyNotJoin_32 : decode cX7_whyNotJoin 32 = .ok (.ireturn, 1) := by decide +kernel
theorem dX7_bestGate_0 : decode cX7_bestGate 0 = .ok (.iload_n 1, 1) := by decide +kernel
theorem dX7_bestGate_1 : decode cX7_bestGate 1 = .ok (.invokestatic 114, 3) := by decide +kernel
theorem dX7_bestGate_4 : decode cX7_bestGate 4 = .ok (.iconst (-1), 1) := by decide +kernel
theorem dX7_bestGate_5 : decode cX7_bestGate 5 = .ok (.istore_n 2, 1) := by decide +kernel
theorem dX7_bestGate_6 : decode cX7_bestGate 6 = .ok (.bipush 11, 2) := by decide +kernel
theorem dX7_bestGate_8 : decode cX7_bestGate 8 = .ok (.istore_n 3, 1) := by decide +kernel
theorem dX7_bestGate_9 : decode cX7_bestGate 9 = .ok (.iconst 0, 1) := by decide +kernel
theorem dX7_bestGate_10 : decode cX7_bestGate 10 = .ok (.istore 4, 2) := by decide +kernel
theorem dX7_bestGate_12 : decode cX7_bestGate 12 = .ok (.iload 4, 2) := by decide +kernel
theorem dX7_bestGate_14 : decode cX7_bestGate 14 = .ok (.aload_n 0, 1) := by decide +kernel
theorem dX7_bestGate_15 : decode cX7_bestGate 15 = .ok (.getfield 26, 3) := by decide +kernel
theorem dX7_bestGate_18 : decode cX7_bestGate 18 = .ok (.getfield 75, 3) := by decide +kernel
theorem dX7_bestGate_21 : decode cX7_bestGate 21 = .ok (.if_icmp .ge 69, 3) := by decide +kernel
theorem dX7_bestGate_24 : decode cX7_bestGate 24 = .ok (.iload 4, 2) := by decide +kernel
theorem dX7_bestGate_26 : decode cX7_bestGate 26 = .ok (.aload_n 0, 1) := by decide +kernel
theorem dX7_bestGate_27 : decode cX7_bestGate 27 = .ok (.getfield 26, 3) := by decide +kernel
theorem dX7_bestGate_30 : decode cX7_bestGate 30 = .ok (.getfield 98, 3) := by decide +kernel
theorem dX7_bestGate_33 : decode cX7_bestGate 33 = .ok (.arraylength, 1) := by decide +kernel
theorem dX7_bestGate_34 : decode cX7_bestGate 34 = .ok (.if_icmp .ge 56, 3) := by decide +kernel
theorem dX7_bestGate_37 : decode cX7_bestGate 37 = .ok (.aload_n 0, 1) := by decide +kernel
theorem dX7_bestGate_38 : decode cX7_bestGate 38 = .ok (.getfield 26, 3) := by decide +kernel
theorem dX7_bestGate_41 : decode cX7_bestGate 41 = .ok (.getfield 98, 3) := by decide +kernel
theorem dX7_bestGate_44 : decode cX7_bestGate 44 = .ok (.iload 4, 2) := by decide +kernel
theorem dX7_bestGate_46 : decode cX7_bestGate 46 = .ok (.aaload, 1) := by decide +kernel
theorem dX7_bestGate_47 : decode cX7_bestGate 47 = .ok (.astore 5, 2) := by decide +kernel
theorem dX7_bestGate_49 : decode cX7_bestGate 49 = .ok (.aload 5, 2) := by decide +kernel
theorem dX7_bestGate_51 : decode cX7_bestGate 51 = .ok (.iload_n 1, 1) := by decide +kernel
theorem dX7_bestGate_52 : decode cX7_bestGate 52 = .ok (.invokevirtual 151, 3) := by decide +kernel
theorem dX7_bestGate_55 : decode cX7_bestGate 55 = .ok (.ifCond .eq 29, 3) := by decide +kernel
theorem dX7_bestGate_58 : decode cX7_bestGate 58 = .ok (.aload 5, 2) := by decide +kernel
theorem dX7_bestGate_60 : decode cX7_bestGate 60 = .ok (.iload_n 1, 1) := by decide +kernel
theorem dX7_bestGate_61 : decode cX7_bestGate 61 = .ok (.invokevirtual 117, 3) := by decide +kernel
theorem dX7_bestGate_64 : decode cX7_bestGate 64 = .ok (.getfield 154, 3) := by decide +kernel
theorem dX7_bestGate_67 : decode cX7_bestGate 67 = .ok (.iload_n 3, 1) := by decide +kernel
theorem dX7_bestGate_68 : decode cX7_bestGate 68 = .ok (.if_icmp .ge 16, 3) := by decide +kernel
theorem dX7_bestGate_71 : decode cX7_bestGate 71 = .ok (.iload 4, 2) := by decide +kernel
theorem dX7_bestGate_73 : decode cX7_bestGate 73 = .ok (.istore_n 2, 1) := by decide +kernel
theorem dX7_bestGate_74 : decode cX7_bestGate 74 = .ok (.aload 5, 2) := by decide +kernel
theorem dX7_bestGate_76 : decode cX7_bestGate 76 = .ok (.iload_n 1, 1) := by decide +kernel
theorem dX7_bestGate_77 : decode cX7_bestGate 77 = .ok (.invokevirtual 117, 3) := by decide +kernel
theorem dX7_bestGate_80 : decode cX7_bestGate 80 = .ok (.getfield 154, 3) := by decide +kernel
theorem dX7_bestGate_83 : decode cX7_bestGate 83 = .ok (.istore_n 3, 1) := by decide +kernel
theorem dX7_bestGate_84 : decode cX7_bestGate 84 = .ok (.iinc 4 1, 3) := by decide +kernel
theorem dX7_bestGate_87 : decode cX7_bestGate 87 = .ok (.goto (-75), 3) := by decide +kernel
theorem dX7_bestGate_90 : decode cX7_bestGate 90 = .ok (.iload_n 2, 1) := by decide +kernel
theorem dX7_bestGate_91 : decode cX7_bestGate 91 = .ok (.ireturn, 1) := by decide +kernel
theorem dX7_nextSide_0 : decode cX7_nextSide 0 = .ok (.aload_n 0, 1) := by decide +kernel
theorem dX7_nextSide_1 : decode cX7_nextSide 1 = .ok (.iload_n 1, 1) := by decide +kernel
theorem dX7_nextSide_2 : decode cX7_nextSide 2 = .ok (.invokevirtual 95, 3) := by decide +kernel
theorem dX7_nextSide_5 : decode cX7_nextSide 5 = .ok (.aload_n 0, 1) := by decide +kernel
theorem dX7_nextSide_6 : decode cX7_nextSide 6 = .ok (.getfield 26, 3) := by decide +kernel
theorem dX7_nextSide_9 : decode cX7_nextSide 9 = .ok (.getfield 98, 3) := by decide +kernel
theorem dX7_nextSide_12 : decode cX7_nextSide 12 = .ok (.iload_n 1, 1) := by decide +kernel
theorem dX7_nextSide_13 : decode cX7_nextSide 13 = .ok (.aaload, 1) := by decide +kernel
theorem dX7_nextSide_14 : decode cX7_nextSide 14 = .ok (.invokevirtual 157, 3) := by decide +kernel
theorem dX7_nextSide_17 : decode cX7_nextSide 17 = .ok (.ireturn, 1) := by decide +kernel
theorem dX7_throughIn_0 : decode cX7_throughIn 0 = .ok (.aload_n 0, 1) := by decide +kernel
theorem dX7_throughIn_1 : decode cX7_throughIn 1 = .ok (.iload_n 1, 1) := by decide +kernel
theorem dX7_throughIn_2 : decode cX7_throughIn 2 = .ok (.invokevirtual 107, 3) := by decide +kernel
theorem dX7_throughIn_5 : decode cX7_throughIn 5 = .ok (.aload_n 0, 1) := by decide +kernel
theorem dX7_throughIn_6 : decode cX7_throughIn 6 = .ok (.getfield 26, 3) := by decide +kernel
theorem dX7_throughIn_9 : decode cX7_throughIn 9 = .ok (.iload_n 1, 1) := by decide +kernel
theorem dX7_throughIn_10 : decode cX7_throughIn 10 = .ok (.invokevirtual 161, 3) := by decide +kernel
theorem dX7_throughIn_13 : decode cX7_throughIn 13 = .ok (.iconst (-1), 1) := by decide +kernel
theorem dX7_throughIn_14 : decode cX7_throughIn 14 = .ok (.if_icmp .ne 5, 3) := by decide +kernel
theorem dX7_throughIn_17 : decode cX7_throughIn 17 = .ok (.iconst (-1), 1) := by decide +kernel
theorem dX7_throughIn_18 : decode cX7_throughIn 18 = .ok (.ireturn, 1) := by decide +kernel
theorem dX7_throughIn_19 : decode cX7_throughIn 19 = .ok (.aload_n 0, 1) := by decide +kernel
theorem dX7_throughIn_20 : decode cX7_throughIn 20 = .ok (.getfield 33, 3) := by decide +kernel
theorem dX7_throughIn_23 : decode cX7_throughIn 23 = .ok (.aload_n 0, 1) := by decide +kernel
theorem dX7_throughIn_24 : decode cX7_throughIn 24 = .ok (.getfield 26, 3) := by decide +kernel
theorem dX7_throughIn_27 : decode cX7_throughIn 27 = .ok (.invokevirtual 57, 3) := by decide +kernel
theorem dX7_throughIn_30 : decode cX7_throughIn 30 = .ok (.iconst 1, 1) := by decide +kernel
theorem dX7_throughIn_31 : decode cX7_throughIn 31 = .ok (.istore_n 2, 1) := by decide +kernel
theorem dX7_throughIn_32 : decode cX7_throughIn 32 = .ok (.iload_n 2, 1) := by decide +kernel
theorem dX7_throughIn_33 : decode cX7_throughIn 33 = .ok (.sipush 200, 3) := by decide +kernel
theorem dX7_throughIn_36 : decode cX7_throughIn 36 = .ok (.if_icmp .gt 46, 3) := by decide +kernel
theorem dX7_throughIn_39 : decode cX7_throughIn 39 = .ok (.aload_n 0, 1) := by decide +kernel
theorem dX7_throughIn_40 : decode cX7_throughIn 40 = .ok (.getfield 33, 3) := by decide +kernel
theorem dX7_throughIn_43 : decode cX7_throughIn 43 = .ok (.iconst 1, 1) := by decide +kernel
theorem dX7_throughIn_44 : decode cX7_throughIn 44 = .ok (.invokevirtual 164, 3) := by decide +kernel
theorem dX7_throughIn_47 : decode cX7_throughIn 47 = .ok (.aload_n 0, 1) := by decide +kernel
theorem dX7_throughIn_48 : decode cX7_throughIn 48 = .ok (.getfield 33, 3) := by decide +kernel
theorem dX7_throughIn_51 : decode cX7_throughIn 51 = .ok (.getfield 135, 3) := by decide +kernel
theorem dX7_throughIn_54 : decode cX7_throughIn 54 = .ok (.iload_n 1, 1) := by decide +kernel
theorem dX7_throughIn_55 : decode cX7_throughIn 55 = .ok (.aaload, 1) := by decide +kernel
theorem dX7_throughIn_56 : decode cX7_throughIn 56 = .ok (.getfield 167, 3) := by decide +kernel
theorem dX7_throughIn_59 : decode cX7_throughIn 59 = .ok (.aload_n 0, 1) := by decide +kernel
theorem dX7_throughIn_60 : decode cX7_throughIn 60 = .ok (.getfield 26, 3) := by decide +kernel
theorem dX7_throughIn_63 : decode cX7_throughIn 63 = .ok (.getfield 135, 3) := by decide +kernel
theorem dX7_throughIn_66 : decode cX7_throughIn 66 = .ok (.iload_n 1, 1) := by decide +kernel
theorem dX7_throughIn_67 : decode cX7_throughIn 67 = .ok (.aaload, 1) := by decide +kernel
theorem dX7_throughIn_68 : decode cX7_throughIn 68 = .ok (.getfield 167, 3) := by decide +kernel
theorem dX7_throughIn_71 : decode cX7_throughIn 71 = .ok (.if_icmp .eq 5, 3) := by decide +kernel
theorem dX7_throughIn_74 : decode cX7_throughIn 74 = .ok (.iload_n 2, 1) := by decide +kernel
theorem dX7_throughIn_75 : decode cX7_throughIn 75 = .ok (.ireturn, 1) := by decide +kernel
theorem dX7_throughIn_76 : decode cX7_throughIn 76 = .ok (.iinc 2 1, 3) := by decide +kernel
theorem dX7_throughIn_79 : decode cX7_throughIn 79 = .ok (.goto (-47), 3) := by decide +kernel
theorem dX7_throughIn_82 : decode cX7_throughIn 82 = .ok (.iconst (-1), 1) := by decide +kernel
theorem dX7_throughIn_83 : decode cX7_throughIn 83 = .ok (.ireturn, 1) := by decide +kernel
theorem dX7_insideIn_0 : decode cX7_insideIn 0 = .ok (.iload_n 1, 1) := by decide +kernel
theorem dX7_insideIn_1 : decode cX7_insideIn 1 = .ok (.sipush 200, 3) := by decide +kernel
theorem dX7_insideIn_4 : decode cX7_insideIn 4 = .ok (.invokestatic 170, 3) := by decide +kernel
theorem dX7_insideIn_7 : decode cX7_insideIn 7 = .ok (.aload_n 0, 1) := by decide +kernel
theorem dX7_insideIn_8 : decode cX7_insideIn 8 = .ok (.getfield 33, 3) := by decide +kernel
theorem dX7_insideIn_11 : decode cX7_insideIn 11 = .ok (.aload_n 0, 1) := by decide +kernel
theorem dX7_insideIn_12 : decode cX7_insideIn 12 = .ok (.getfield 26, 3) := by decide +kernel
theorem dX7_insideIn_15 : decode cX7_insideIn 15 = .ok (.invokevirtual 57, 3) := by decide +kernel
theorem dX7_insideIn_18 : decode cX7_insideIn 18 = .ok (.aload_n 0, 1) := by decide +kernel
theorem dX7_insideIn_19 : decode cX7_insideIn 19 = .ok (.getfield 33, 3) := by decide +kernel
theorem dX7_insideIn_22 : decode cX7_insideIn 22 = .ok (.iload_n 1, 1) := by decide +kernel
theorem dX7_insideIn_23 : decode cX7_insideIn 23 = .ok (.invokevirtual 164, 3) := by decide +kernel
theorem dX7_insideIn_26 : decode cX7_insideIn 26 = .ok (.aload_n 0, 1) := by decide +kernel
theorem dX7_insideIn_27 : decode cX7_insideIn 27 = .ok (.getfield 33, 3) := by decide +kernel
theorem dX7_insideIn_30 : decode cX7_insideIn 30 = .ok (.getfield 174, 3) := by decide +kernel
theorem dX7_insideIn_33 : decode cX7_insideIn 33 = .ok (.ireturn, 1) := by decide +kernel
theorem dX7_followersIn_0 : decode cX7_followersIn 0 = .ok (.iload_n 1, 1) := by decide +kernel
theorem dX7_followersIn_1 : decode cX7_followersIn 1 = .ok (.sipush 200, 3) := by decide +kernel
theorem dX7_followersIn_4 : decode cX7_followersIn 4 = .ok (.invokestatic 170, 3) := by decide +kernel
theorem dX7_followersIn_7 : decode cX7_followersIn 7 = .ok (.aload_n 0, 1) := by decide +kernel
theorem dX7_followersIn_8 : decode cX7_followersIn 8 = .ok (.getfield 33, 3) := by decide +kernel
theorem dX7_followersIn_11 : decode cX7_followersIn 11 = .ok (.aload_n 0, 1) := by decide +kernel
theorem dX7_followersIn_12 : decode cX7_followersIn 12 = .ok (.getfield 26, 3) := by decide +kernel
theorem dX7_followersIn_15 : decode cX7_followersIn 15 = .ok (.invokevirtual 57, 3) := by decide +kernel
theorem dX7_followersIn_18 : decode cX7_followersIn 18 = .ok (.aload_n 0, 1) := by decide +kernel
theorem dX7_followersIn_19 : decode cX7_followersIn 19 = .ok (.getfield 33, 3) := by decide +kernel
theorem dX7_followersIn_22 : decode cX7_followersIn 22 = .ok (.iload_n 1, 1) := by decide +kernel
theorem dX7_followersIn_23 : decode cX7_followersIn 23 = .ok (.invokevirtual 164, 3) := by decide +kernel
theorem dX7_followersIn_26 : decode cX7_followersIn 26 = .ok (.aload_n 0, 1) := by decide +kernel
theorem dX7_followersIn_27 : decode cX7_followersIn 27 = .ok (.getfield 33, 3) := by decide +kernel
theorem dX7_followersIn_30 : decode cX7_followersIn 30 = .ok (.getfield 177, 3) := by decide +kernel
theorem dX7_followersIn_33 : decode cX7_followersIn 33 = .ok (.aload_n 0, 1) := by decide +kernel
theorem dX7_followersIn_34 : decode cX7_followersIn 34 = .ok (.getfield 26, 3) := by decide +kernel
theorem dX7_followersIn_37 : decode cX7_followersIn 37 = .ok (.getfield 177, 3) := by decide +kernel
theorem dX7_followersIn_40 : decode cX7_followersIn 40 = .ok (.isub, 1) := by decide +kernel
theorem dX7_followersIn_41 : decode cX7_followersIn 41 = .ok (.ireturn, 1) := by decide +kernel
theorem dX7_ranked_0 : decode cX7_ranked 0 = .ok (.iconst 0, 1) := by decide +kernel
theorem dX7_ranked_1 : decode cX7_ranked 1 = .ok (.istore_n 2, 1) := by decide +kernel
theorem dX7_ranked_2 : decode cX7_ranked 2 = .ok (.iload_n 2, 1) := by decide +kernel
theorem dX7_ranked_3 : decode cX7_ranked 3 = .ok (.aload_n 0, 1) := by decide +kernel
theorem dX7_ranked_4 : decode cX7_ranked 4 = .ok (.getfield 26, 3) := by decide +kernel
theorem dX7_ranked_7 : decode cX7_ranked 7 = .ok (.getfield 75, 3) := by decide +kernel
theorem dX7_ranked_10 : decode cX7_ranked 10 = .ok (.if_icmp .ge 35, 3) := by decide +kernel
theorem dX7_ranked_13 : decode cX7_ranked 13 = .ok (.iload_n 2, 1) := by decide +kernel
theorem dX7_ranked_14 : decode cX7_ranked 14 = .ok (.aload_n 0, 1) := by decide +kernel
theorem dX7_ranked_15 : decode cX7_ranked 15 = .ok (.getfield 26, 3) := by decide +kernel
theorem dX7_ranked_18 : decode cX7_ranked 18 = .ok (.getfield 98, 3) := by decide +kernel
theorem dX7_ranked_21 : decode cX7_ranked 21 = .ok (.arraylength, 1) := by decide +kernel
theorem dX7_ranked_22 : decode cX7_ranked 22 = .ok (.if_icmp .ge 23, 3) := by decide +kernel
theorem dX7_ranked_25 : decode cX7_ranked 25 = .ok (.aload_n 0, 1) := by decide +kernel
theorem dX7_ranked_26 : decode cX7_ranked 26 = .ok (.getfield 26, 3) := by decide +kernel
theorem dX7_ranked_29 : decode cX7_ranked 29 = .ok (.iload_n 2, 1) := by decide +kernel
theorem dX7_ranked_30 : decode cX7_ranked 30 = .ok (.invokevirtual 192, 3) := by decide +kernel
theorem dX7_ranked_33 : decode cX7_ranked 33 = .ok (.iload_n 1, 1) := by decide +kernel
theorem dX7_ranked_34 : decode cX7_ranked 34 = .ok (.if_icmp .ne 5, 3) := by decide +kernel
theorem dX7_ranked_37 : decode cX7_ranked 37 = .ok (.iload_n 2, 1) := by decide +kernel
theorem dX7_ranked_38 : decode cX7_ranked 38 = .ok (.ireturn, 1) := by decide +kernel
theorem dX7_ranked_39 : decode cX7_ranked 39 = .ok (.iinc 2 1, 3) := by decide +kernel
theorem dX7_ranked_42 : decode cX7_ranked 42 = .ok (.goto (-40), 3) := by decide +kernel
theorem dX7_ranked_45 : decode cX7_ranked 45 = .ok (.new 127, 3) := by decide +kernel
theorem dX7_ranked_48 : decode cX7_ranked 48 = .ok (.dup, 1) := by decide +kernel
theorem dX7_ranked_49 : decode cX7_ranked 49 = .ok (.ldc 195, 2) := by decide +kernel
theorem dX7_ranked_51 : decode cX7_ranked 51 = .ok (.invokespecial 131, 3) := by decide +kernel
theorem dX7_ranked_54 : decode cX7_ranked 54 = .ok (.athrow, 1) := by decide +kernel
theorem dX7_gap_0 : decode cX7_gap 0 = .ok (.aload_n 0, 1) := by decide +kernel
theorem dX7_gap_1 : decode cX7_gap 1 = .ok (.getfield 26, 3) := by decide +kernel
theorem dX7_gap_4 : decode cX7_gap 4 = .ok (.getfield 197, 3) := by decide +kernel
theorem dX7_gap_7 : decode cX7_gap 7 = .ok (.aload_n 0, 1) := by decide +kernel
theorem dX7_gap_8 : decode cX7_gap 8 = .ok (.getfield 26, 3) := by decide +kernel
theorem dX7_gap_11 : decode cX7_gap 11 = .ok (.getfield 200, 3) := by decide +kernel
theorem dX7_gap_14 : decode cX7_gap 14 = .ok (.isub, 1) := by decide +kernel
theorem dX7_gap_15 : decode cX7_gap 15 = .ok (.aload_n 0, 1) := by decide +kernel
theorem dX7_gap_16 : decode cX7_gap 16 = .ok (.getfield 26, 3) := by decide +kernel
theorem dX7_gap_19 : decode cX7_gap 19 = .ok (.getfield 203, 3) := by decide +kernel
theorem dX7_gap_22 : decode cX7_gap 22 = .ok (.isub, 1) := by decide +kernel
theorem dX7_gap_23 : decode cX7_gap 23 = .ok (.aload_n 0, 1) := by decide +kernel
theorem dX7_gap_24 : decode cX7_gap 24 = .ok (.getfield 26, 3) := by decide +kernel
theorem dX7_gap_27 : decode cX7_gap 27 = .ok (.getfield 174, 3) := by decide +kernel
theorem dX7_gap_30 : decode cX7_gap 30 = .ok (.isub, 1) := by decide +kernel
theorem dX7_gap_31 : decode cX7_gap 31 = .ok (.istore_n 1, 1) := by decide +kernel
theorem dX7_gap_32 : decode cX7_gap 32 = .ok (.iload_n 1, 1) := by decide +kernel
theorem dX7_gap_33 : decode cX7_gap 33 = .ok (.invokestatic 206, 3) := by decide +kernel
theorem dX7_gap_36 : decode cX7_gap 36 = .ok (.aload_n 0, 1) := by decide +kernel
theorem dX7_gap_37 : decode cX7_gap 37 = .ok (.getfield 26, 3) := by decide +kernel
theorem dX7_gap_40 : decode cX7_gap 40 = .ok (.invokevirtual 209, 3) := by decide +kernel
theorem dX7_gap_43 : decode cX7_gap 43 = .ok (.iadd, 1) := by decide +kernel
theorem dX7_gap_44 : decode cX7_gap 44 = .ok (.aload_n 0, 1) := by decide +kernel
theorem dX7_gap_45 : decode cX7_gap 45 = .ok (.getfield 26, 3) := by decide +kernel
theorem dX7_gap_48 : decode cX7_gap 48 = .ok (.invokevirtual 212, 3) := by decide +kernel
theorem dX7_gap_51 : decode cX7_gap 51 = .ok (.iadd, 1) := by decide +kernel
theorem dX7_gap_52 : decode cX7_gap 52 = .ok (.ireturn, 1) := by decide +kernel
theorem dX7_join_0 : decode cX7_join 0 = .ok (.aload_n 0, 1) := by decide +kernel
theorem dX7_join_1 : decode cX7_join 1 = .ok (.iload_n 1, 1) := by decide +kernel
theorem dX7_join_2 : decode cX7_join 2 = .ok (.invokevirtual 95, 3) := by decide +kernel
theorem dX7_join_5 : decode cX7_join 5 = .ok (.aload_n 0, 1) := by decide +kernel
theorem dX7_join_6 : decode cX7_join 6 = .ok (.iload_n 3, 1) := by decide +kernel
theorem dX7_join_7 : decode cX7_join 7 = .ok (.invokevirtual 144, 3) := by decide +kernel
theorem dX7_join_10 : decode cX7_join 10 = .ok (.iload_n 2, 1) := by decide +kernel
theorem dX7_join_11 : decode cX7_join 11 = .ok (.invokestatic 114, 3) := by decide +kernel
theorem dX7_join_14 : decode cX7_join 14 = .ok (.aload_n 0, 1) := by decide +kernel
theorem dX7_join_15 : decode cX7_join 15 = .ok (.getfield 39, 3) := by decide +kernel
theorem dX7_join_18 : decode cX7_join 18 = .ok (.aload_n 0, 1) := by decide +kernel
theorem dX7_join_19 : decode cX7_join 19 = .ok (.getfield 26, 3) := by decide +kernel
theorem dX7_join_22 : decode cX7_join 22 = .ok (.invokevirtual 72, 3) := by decide +kernel
theorem dX7_join_25 : decode cX7_join 25 = .ok (.aload_n 0, 1) := by decide +kernel
theorem dX7_join_26 : decode cX7_join 26 = .ok (.getfield 26, 3) := by decide +kernel
theorem dX7_join_29 : decode cX7_join 29 = .ok (.aload_n 0, 1) := by decide +kernel
theorem dX7_join_30 : decode cX7_join 30 = .ok (.getfield 26, 3) := by decide +kernel
theorem dX7_join_33 : decode cX7_join 33 = .ok (.getfield 98, 3) := by decide +kernel
theorem dX7_join_36 : decode cX7_join 36 = .ok (.iload_n 1, 1) := by decide +kernel
theorem dX7_join_37 : decode cX7_join 37 = .ok (.aaload, 1) := by decide +kernel
theorem dX7_join_38 : decode cX7_join 38 = .ok (.iload_n 2, 1) := by decide +kernel
theorem dX7_join_39 : decode cX7_join 39 = .ok (.iload_n 3, 1) := by decide +kernel
theorem dX7_join_40 : decode cX7_join 40 = .ok (.invokevirtual 147, 3) := by decide +kernel
theorem dX7_join_43 : decode cX7_join 43 = .ok (.istore 4, 2) := by decide +kernel
theorem dX7_join_45 : decode cX7_join 45 = .ok (.iload 4, 2) := by decide +kernel
theorem dX7_join_47 : decode cX7_join 47 = .ok (.ifCond .eq 20, 3) := by decide +kernel
theorem dX7_join_50 : decode cX7_join 50 = .ok (.aload_n 0, 1) := by decide +kernel
theorem dX7_join_51 : decode cX7_join 51 = .ok (.getfield 26, 3) := by decide +kernel
theorem dX7_join_54 : decode cX7_join 54 = .ok (.dup, 1) := by decide +kernel
theorem dX7_join_55 : decode cX7_join 55 = .ok (.getfield 215, 3) := by decide +kernel
theorem dX7_join_58 : decode cX7_join 58 = .ok (.iconst 1, 1) := by decide +kernel
theorem dX7_join_59 : decode cX7_join 59 = .ok (.iadd, 1) := by decide +kernel
theorem dX7_join_60 : decode cX7_join 60 = .ok (.putfield 215, 3) := by decide +kernel
theorem dX7_join_63 : decode cX7_join 63 = .ok (.iload 4, 2) := by decide +kernel
theorem dX7_join_65 : decode cX7_join 65 = .ok (.ineg, 1) := by decide +kernel
theorem dX7_join_66 : decode cX7_join 66 = .ok (.ireturn, 1) := by decide +kernel
theorem dX7_join_67 : decode cX7_join 67 = .ok (.aload_n 0, 1) := by decide +kernel
theorem dX7_join_68 : decode cX7_join 68 = .ok (.getfield 26, 3) := by decide +kernel
theorem dX7_join_71 : decode cX7_join 71 = .ok (.getfield 98, 3) := by decide +kernel
theorem dX7_join_74 : decode cX7_join 74 = .ok (.iload_n 1, 1) := by decide +kernel
theorem dX7_join_75 : decode cX7_join 75 = .ok (.aaload, 1) := by decide +kernel
theorem dX7_join_76 : decode cX7_join 76 = .ok (.iload_n 2, 1) := by decide +kernel
theorem dX7_join_77 : decode cX7_join 77 = .ok (.invokevirtual 117, 3) := by decide +kernel
theorem dX7_join_80 : decode cX7_join 80 = .ok (.astore 5, 2) := by decide +kernel
theorem dX7_join_82 : decode cX7_join 82 = .ok (.aload 5, 2) := by decide +kernel
theorem dX7_join_84 : decode cX7_join 84 = .ok (.iload_n 3, 1) := by decide +kernel
theorem dX7_join_85 : decode cX7_join 85 = .ok (.invokevirtual 218, 3) := by decide +kernel
theorem dX7_join_88 : decode cX7_join 88 = .ok (.aload 5, 2) := by decide +kernel
theorem dX7_join_90 : decode cX7_join 90 = .ok (.getfield 154, 3) := by decide +kernel
theorem dX7_join_93 : decode cX7_join 93 = .ok (.ireturn, 1) := by decide +kernel
theorem dX7_leave_0 : decode cX7_leave 0 = .ok (.aload_n 0, 1) := by decide +kernel
theorem dX7_leave_1 : decode cX7_leave 1 = .ok (.iload_n 1, 1) := by decide +kernel
theorem dX7_leave_2 : decode cX7_leave 2 = .ok (.invokevirtual 95, 3) := by decide +kernel
theorem dX7_leave_5 : decode cX7_leave 5 = .ok (.iload_n 2, 1) := by decide +kernel
theorem dX7_leave_6 : decode cX7_leave 6 = .ok (.invokestatic 114, 3) := by decide +kernel
theorem dX7_leave_9 : decode cX7_leave 9 = .ok (.aload_n 0, 1) := by decide +kernel
theorem dX7_leave_10 : decode cX7_leave 10 = .ok (.getfield 26, 3) := by decide +kernel
theorem dX7_leave_13 : decode cX7_leave 13 = .ok (.getfield 98, 3) := by decide +kernel
theorem dX7_leave_16 : decode cX7_leave 16 = .ok (.iload_n 1, 1) := by decide +kernel
theorem dX7_leave_17 : decode cX7_leave 17 = .ok (.aaload, 1) := by decide +kernel
theorem dX7_leave_18 : decode cX7_leave 18 = .ok (.iload_n 2, 1) := by decide +kernel
theorem dX7_leave_19 : decode cX7_leave 19 = .ok (.invokevirtual 117, 3) := by decide +kernel
theorem dX7_leave_22 : decode cX7_leave 22 = .ok (.astore 4, 2) := by decide +kernel
theorem dX7_leave_24 : decode cX7_leave 24 = .ok (.aload 4, 2) := by decide +kernel
theorem dX7_leave_26 : decode cX7_leave 26 = .ok (.iload_n 3, 1) := by decide +kernel
theorem dX7_leave_27 : decode cX7_leave 27 = .ok (.invokevirtual 121, 3) := by decide +kernel
theorem dX7_leave_30 : decode cX7_leave 30 = .ok (.ifCond .ne 13, 3) := by decide +kernel
theorem dX7_leave_33 : decode cX7_leave 33 = .ok (.new 127, 3) := by decide +kernel
theorem dX7_leave_36 : decode cX7_leave 36 = .ok (.dup, 1) := by decide +kernel
theorem dX7_leave_37 : decode cX7_leave 37 = .ok (.ldc 129, 2) := by decide +kernel
theorem dX7_leave_39 : decode cX7_leave 39 = .ok (.invokespecial 131, 3) := by decide +kernel
theorem dX7_leave_42 : decode cX7_leave 42 = .ok (.athrow, 1) := by decide +kernel
theorem dX7_leave_43 : decode cX7_leave 43 = .ok (.iload_n 3, 1) := by decide +kernel
theorem dX7_leave_44 : decode cX7_leave 44 = .ok (.ifCond .ne 29, 3) := by decide +kernel
theorem dX7_leave_47 : decode cX7_leave 47 = .ok (.aload_n 0, 1) := by decide +kernel
theorem dX7_leave_48 : decode cX7_leave 48 = .ok (.getfield 26, 3) := by decide +kernel
theorem dX7_leave_51 : decode cX7_leave 51 = .ok (.getfield 98, 3) := by decide +kernel
theorem dX7_leave_54 : decode cX7_leave 54 = .ok (.iload_n 1, 1) := by decide +kernel
theorem dX7_leave_55 : decode cX7_leave 55 = .ok (.aaload, 1) := by decide +kernel
theorem dX7_leave_56 : decode cX7_leave 56 = .ok (.iload_n 2, 1) := by decide +kernel
theorem dX7_leave_57 : decode cX7_leave 57 = .ok (.invokevirtual 221, 3) := by decide +kernel
theorem dX7_leave_60 : decode cX7_leave 60 = .ok (.ifCond .eq 13, 3) := by decide +kernel
theorem dX7_leave_63 : decode cX7_leave 63 = .ok (.new 224, 3) := by decide +kernel
theorem dX7_leave_66 : decode cX7_leave 66 = .ok (.dup, 1) := by decide +kernel
theorem dX7_leave_67 : decode cX7_leave 67 = .ok (.ldc 226, 2) := by decide +kernel
theorem dX7_leave_69 : decode cX7_leave 69 = .ok (.invokespecial 228, 3) := by decide +kernel
theorem dX7_leave_72 : decode cX7_leave 72 = .ok (.athrow, 1) := by decide +kernel
theorem dX7_leave_73 : decode cX7_leave 73 = .ok (.aload_n 0, 1) := by decide +kernel
theorem dX7_leave_74 : decode cX7_leave 74 = .ok (.getfield 39, 3) := by decide +kernel
theorem dX7_leave_77 : decode cX7_leave 77 = .ok (.aload_n 0, 1) := by decide +kernel
theorem dX7_leave_78 : decode cX7_leave 78 = .ok (.getfield 26, 3) := by decide +kernel
theorem dX7_leave_81 : decode cX7_leave 81 = .ok (.invokevirtual 72, 3) := by decide +kernel
theorem dX7_leave_84 : decode cX7_leave 84 = .ok (.aload 4, 2) := by decide +kernel
theorem dX7_leave_86 : decode cX7_leave 86 = .ok (.iload_n 3, 1) := by decide +kernel
theorem dX7_leave_87 : decode cX7_leave 87 = .ok (.invokevirtual 229, 3) := by decide +kernel
theorem dX7_leave_90 : decode cX7_leave 90 = .ok (.pop, 1) := by decide +kernel
theorem dX7_leave_91 : decode cX7_leave 91 = .ok (.aload 4, 2) := by decide +kernel
theorem dX7_leave_93 : decode cX7_leave 93 = .ok (.getfield 154, 3) := by decide +kernel
theorem dX7_leave_96 : decode cX7_leave 96 = .ok (.ireturn, 1) := by decide +kernel
theorem dX7_list_0 : decode cX7_list 0 = .ok (.aload_n 0, 1) := by decide +kernel
theorem dX7_list_1 : decode cX7_list 1 = .ok (.iload_n 1, 1) := by decide +kernel
theorem dX7_list_2 : decode cX7_list 2 = .ok (.invokevirtual 107, 3) := by decide +kernel
theorem dX7_list_5 : decode cX7_list 5 = .ok (.aload_n 0, 1) := by decide +kernel
theorem dX7_list_6 : decode cX7_list 6 = .ok (.getfield 39, 3) := by decide +kernel
theorem dX7_list_9 : decode cX7_list 9 = .ok (.aload_n 0, 1) := by decide +kernel
theorem dX7_list_10 : decode cX7_list 10 = .ok (.getfield 26, 3) := by decide +kernel
theorem dX7_list_13 : decode cX7_list 13 = .ok (.invokevirtual 72, 3) := by decide +kernel
theorem dX7_list_16 : decode cX7_list 16 = .ok (.aload_n 0, 1) := by decide +kernel
theorem dX7_list_17 : decode cX7_list 17 = .ok (.getfield 26, 3) := by decide +kernel
theorem dX7_list_20 : decode cX7_list 20 = .ok (.getfield 135, 3) := by decide +kernel
theorem dX7_list_23 : decode cX7_list 23 = .ok (.iload_n 1, 1) := by decide +kernel
theorem dX7_list_24 : decode cX7_list 24 = .ok (.aaload, 1) := by decide +kernel
theorem dX7_list_25 : decode cX7_list 25 = .ok (.iload_n 2, 1) := by decide +kernel
theorem dX7_list_26 : decode cX7_list 26 = .ok (.putfield 232, 3) := by decide +kernel
theorem dX7_list_29 : decode cX7_list 29 = .ok (.aload_n 0, 1) := by decide +kernel
theorem dX7_list_30 : decode cX7_list 30 = .ok (.getfield 26, 3) := by decide +kernel
theorem dX7_list_33 : decode cX7_list 33 = .ok (.invokevirtual 236, 3) := by decide +kernel
theorem dX7_list_36 : decode cX7_list 36 = .ok (.ireturn, 1) := by decide +kernel
theorem dX7_charge_0 : decode cX7_charge 0 = .ok (.aload_n 0, 1) := by decide +kernel
theorem dX7_charge_1 : decode cX7_charge 1 = .ok (.iload_n 1, 1) := by decide +kernel
theorem dX7_charge_2 : decode cX7_charge 2 = .ok (.invokevirtual 107, 3) := by decide +kernel
theorem dX7_charge_5 : decode cX7_charge 5 = .ok (.iload_n 2, 1) := by decide +kernel
theorem dX7_charge_6 : decode cX7_charge 6 = .ok (.iconst 1, 1) := by decide +kernel
theorem dX7_charge_7 : decode cX7_charge 7 = .ok (.if_icmp .lt 9, 3) := by decide +kernel
theorem dX7_charge_10 : decode cX7_charge 10 = .ok (.iload_n 2, 1) := by decide +kernel
theorem dX7_charge_11 : decode cX7_charge 11 = .ok (.bipush 99, 2) := by decide +kernel
theorem dX7_charge_13 : decode cX7_charge 13 = .ok (.if_icmp .le 13, 3) := by decide +kernel
theorem dX7_charge_16 : decode cX7_charge 16 = .ok (.new 78, 3) := by decide +kernel
theorem dX7_charge_19 : decode cX7_charge 19 = .ok (.dup, 1) := by decide +kernel
theorem dX7_charge_20 : decode cX7_charge 20 = .ok (.ldc 239, 2) := by decide +kernel
theorem dX7_charge_22 : decode cX7_charge 22 = .ok (.invokespecial 82, 3) := by decide +kernel
theorem dX7_charge_25 : decode cX7_charge 25 = .ok (.athrow, 1) := by decide +kernel
theorem dX7_charge_26 : decode cX7_charge 26 = .ok (.aload_n 0, 1) := by decide +kernel
theorem dX7_charge_27 : decode cX7_charge 27 = .ok (.getfield 26, 3) := by decide +kernel
theorem dX7_charge_30 : decode cX7_charge 30 = .ok (.getfield 135, 3) := by decide +kernel
theorem dX7_charge_33 : decode cX7_charge 33 = .ok (.iload_n 1, 1) := by decide +kernel
theorem dX7_charge_34 : decode cX7_charge 34 = .ok (.aaload, 1) := by decide +kernel
theorem dX7_charge_35 : decode cX7_charge 35 = .ok (.getfield 241, 3) := by decide +kernel
theorem dX7_charge_38 : decode cX7_charge 38 = .ok (.iload_n 2, 1) := by decide +kernel
theorem dX7_charge_39 : decode cX7_charge 39 = .ok (.iadd, 1) := by decide +kernel
theorem dX7_charge_40 : decode cX7_charge 40 = .ok (.bipush 99, 2) := by decide +kernel
theorem dX7_charge_42 : decode cX7_charge 42 = .ok (.if_icmp .le 13, 3) := by decide +kernel
theorem dX7_charge_45 : decode cX7_charge 45 = .ok (.new 224, 3) := by decide +kernel
theorem dX7_charge_48 : decode cX7_charge 48 = .ok (.dup, 1) := by decide +kernel
theorem dX7_charge_49 : decode cX7_charge 49 = .ok (.ldc 244, 2) := by decide +kernel
theorem dX7_charge_51 : decode cX7_charge 51 = .ok (.invokespecial 228, 3) := by decide +kernel
theorem dX7_charge_54 : decode cX7_charge 54 = .ok (.athrow, 1) := by decide +kernel
theorem dX7_charge_55 : decode cX7_charge 55 = .ok (.aload_n 0, 1) := by decide +kernel
theorem dX7_charge_56 : decode cX7_charge 56 = .ok (.getfield 39, 3) := by decide +kernel
theorem dX7_charge_59 : decode cX7_charge 59 = .ok (.aload_n 0, 1) := by decide +kernel
theorem dX7_charge_60 : decode cX7_charge 60 = .ok (.getfield 26, 3) := by decide +kernel
theorem dX7_charge_63 : decode cX7_charge 63 = .ok (.invokevirtual 72, 3) := by decide +kernel
theorem dX7_charge_66 : decode cX7_charge 66 = .ok (.aload_n 0, 1) := by decide +kernel
theorem dX7_charge_67 : decode cX7_charge 67 = .ok (.getfield 26, 3) := by decide +kernel
theorem dX7_charge_70 : decode cX7_charge 70 = .ok (.getfield 135, 3) := by decide +kernel
theorem dX7_charge_73 : decode cX7_charge 73 = .ok (.iload_n 1, 1) := by decide +kernel
theorem dX7_charge_74 : decode cX7_charge 74 = .ok (.aaload, 1) := by decide +kernel
theorem dX7_charge_75 : decode cX7_charge 75 = .ok (.dup, 1) := by decide +kernel
theorem dX7_charge_76 : decode cX7_charge 76 = .ok (.getfield 241, 3) := by decide +kernel
theorem dX7_charge_79 : decode cX7_charge 79 = .ok (.iload_n 2, 1) := by decide +kernel
theorem dX7_charge_80 : decode cX7_charge 80 = .ok (.iadd, 1) := by decide +kernel
theorem dX7_charge_81 : decode cX7_charge 81 = .ok (.putfield 241, 3) := by decide +kernel
theorem dX7_charge_84 : decode cX7_charge 84 = .ok (.aload_n 0, 1) := by decide +kernel
theorem dX7_charge_85 : decode cX7_charge 85 = .ok (.getfield 26, 3) := by decide +kernel
theorem dX7_charge_88 : decode cX7_charge 88 = .ok (.getfield 135, 3) := by decide +kernel
theorem dX7_charge_91 : decode cX7_charge 91 = .ok (.iload_n 1, 1) := by decide +kernel
theorem dX7_charge_92 : decode cX7_charge 92 = .ok (.aaload, 1) := by decide +kernel
theorem dX7_charge_93 : decode cX7_charge 93 = .ok (.getfield 241, 3) := by decide +kernel
theorem dX7_charge_96 : decode cX7_charge 96 = .ok (.ireturn, 1) := by decide +kernel
theorem dX7_mode_0 : decode cX7_mode 0 = .ok (.aload_n 0, 1) := by decide +kernel
theorem dX7_mode_1 : decode cX7_mode 1 = .ok (.iload_n 1, 1) := by decide +kernel
theorem dX7_mode_2 : decode cX7_mode 2 = .ok (.invokevirtual 95, 3) := by decide +kernel
theorem dX7_mode_5 : decode cX7_mode 5 = .ok (.iload_n 2, 1) := by decide +kernel
theorem dX7_mode_6 : decode cX7_mode 6 = .ok (.ifCond .lt 8, 3) := by decide +kernel
theorem dX7_mode_9 : decode cX7_mode 9 = .ok (.iload_n 2, 1) := by decide +kernel
theorem dX7_mode_10 : decode cX7_mode 10 = .ok (.iconst 2, 1) := by decide +kernel
theorem dX7_mode_11 : decode cX7_mode 11 = .ok (.if_icmp .le 13, 3) := by decide +kernel
theorem dX7_mode_14 : decode cX7_mode 14 = .ok (.new 78, 3) := by decide +kernel
theorem dX7_mode_17 : decode cX7_mode 17 = .ok (.dup, 1) := by decide +kernel
theorem dX7_mode_18 : decode cX7_mode 18 = .ok (.ldc 246, 2) := by decide +kernel
theorem dX7_mode_20 : decode cX7_mode 20 = .ok (.invokespecial 82, 3) := by decide +kernel
theorem dX7_mode_23 : decode cX7_mode 23 = .ok (.athrow, 1) := by decide +kernel
theorem dX7_mode_24 : decode cX7_mode 24 = .ok (.aload_n 0, 1) := by decide +kernel
theorem dX7_mode_25 : decode cX7_mode 25 = .ok (.getfield 26, 3) := by decide +kernel
theorem dX7_mode_28 : decode cX7_mode 28 = .ok (.getfield 98, 3) := by decide +kernel
theorem dX7_mode_31 : decode cX7_mode 31 = .ok (.iload_n 1, 1) := by decide +kernel
theorem dX7_mode_32 : decode cX7_mode 32 = .ok (.aaload, 1) := by decide +kernel
theorem dX7_mode_33 : decode cX7_mode 33 = .ok (.iload_n 2, 1) := by decide +kernel
theorem dX7_mode_34 : decode cX7_mode 34 = .ok (.invokevirtual 248, 3) := by decide +kernel
theorem dX7_mode_37 : decode cX7_mode 37 = .ok (.ifCond .ne 13, 3) := by decide +kernel
theorem dX7_mode_40 : decode cX7_mode 40 = .ok (.new 224, 3) := by decide +kernel
theorem dX7_mode_43 : decode cX7_mode 43 = .ok (.dup, 1) := by decide +kernel
theorem dX7_mode_44 : decode cX7_mode 44 = .ok (.ldc 251, 2) := by decide +kernel
theorem dX7_mode_46 : decode cX7_mode 46 = .ok (.invokespecial 228, 3) := by decide +kernel
theorem dX7_mode_49 : decode cX7_mode 49 = .ok (.athrow, 1) := by decide +kernel
theorem dX7_mode_50 : decode cX7_mode 50 = .ok (.aload_n 0, 1) := by decide +kernel
theorem dX7_mode_51 : decode cX7_mode 51 = .ok (.getfield 39, 3) := by decide +kernel
theorem dX7_mode_54 : decode cX7_mode 54 = .ok (.aload_n 0, 1) := by decide +kernel
theorem dX7_mode_55 : decode cX7_mode 55 = .ok (.getfield 26, 3) := by decide +kernel
theorem dX7_mode_58 : decode cX7_mode 58 = .ok (.invokevirtual 72, 3) := by decide +kernel
theorem dX7_mode_61 : decode cX7_mode 61 = .ok (.aload_n 0, 1) := by decide +kernel
theorem dX7_mode_62 : decode cX7_mode 62 = .ok (.getfield 26, 3) := by decide +kernel
theorem dX7_mode_65 : decode cX7_mode 65 = .ok (.getfield 98, 3) := by decide +kernel
theorem dX7_mode_68 : decode cX7_mode 68 = .ok (.iload_n 1, 1) := by decide +kernel
theorem dX7_mode_69 : decode cX7_mode 69 = .ok (.aaload, 1) := by decide +kernel
theorem dX7_mode_70 : decode cX7_mode 70 = .ok (.getfield 253, 3) := by decide +kernel
theorem dX7_mode_73 : decode cX7_mode 73 = .ok (.istore_n 3, 1) := by decide +kernel
theorem dX7_mode_74 : decode cX7_mode 74 = .ok (.aload_n 0, 1) := by decide +kernel
theorem dX7_mode_75 : decode cX7_mode 75 = .ok (.getfield 26, 3) := by decide +kernel
theorem dX7_mode_78 : decode cX7_mode 78 = .ok (.getfield 98, 3) := by decide +kernel
theorem dX7_mode_81 : decode cX7_mode 81 = .ok (.iload_n 1, 1) := by decide +kernel
theorem dX7_mode_82 : decode cX7_mode 82 = .ok (.aaload, 1) := by decide +kernel
theorem dX7_mode_83 : decode cX7_mode 83 = .ok (.iload_n 2, 1) := by decide +kernel
theorem dX7_mode_84 : decode cX7_mode 84 = .ok (.putfield 253, 3) := by decide +kernel
theorem dX7_mode_87 : decode cX7_mode 87 = .ok (.iload_n 3, 1) := by decide +kernel
theorem dX7_mode_88 : decode cX7_mode 88 = .ok (.ireturn, 1) := by decide +kernel
theorem dX7_key_0 : decode cX7_key 0 = .ok (.iload_n 1, 1) := by decide +kernel
theorem dX7_key_1 : decode cX7_key 1 = .ok (.ifCond .lt 8, 3) := by decide +kernel
theorem dX7_key_4 : decode cX7_key 4 = .ok (.iload_n 1, 1) := by decide +kernel
theorem dX7_key_5 : decode cX7_key 5 = .ok (.iconst 3, 1) := by decide +kernel
theorem dX7_key_6 : decode cX7_key 6 = .ok (.if_icmp .lt 14, 3) := by decide +kernel
theorem dX7_key_9 : decode cX7_key 9 = .ok (.new 78, 3) := by decide +kernel
theorem dX7_key_12 : decode cX7_key 12 = .ok (.dup, 1) := by decide +kernel
theorem dX7_key_13 : decode cX7_key 13 = .ok (.ldc_w 256, 3) := by decide +kernel
theorem dX7_key_16 : decode cX7_key 16 = .ok (.invokespecial 82, 3) := by decide +kernel
theorem dX7_key_19 : decode cX7_key 19 = .ok (.athrow, 1) := by decide +kernel
theorem dX7_key_20 : decode cX7_key 20 = .ok (.aload_n 0, 1) := by decide +kernel
theorem dX7_key_21 : decode cX7_key 21 = .ok (.getfield 39, 3) := by decide +kernel
theorem dX7_key_24 : decode cX7_key 24 = .ok (.aload_n 0, 1) := by decide +kernel
theorem dX7_key_25 : decode cX7_key 25 = .ok (.getfield 26, 3) := by decide +kernel
theorem dX7_key_28 : decode cX7_key 28 = .ok (.invokevirtual 72, 3) := by decide +kernel
theorem dX7_key_31 : decode cX7_key 31 = .ok (.aload_n 0, 1) := by decide +kernel
theorem dX7_key_32 : decode cX7_key 32 = .ok (.getfield 26, 3) := by decide +kernel
theorem dX7_key_35 : decode cX7_key 35 = .ok (.iload_n 1, 1) := by decide +kernel
theorem dX7_key_36 : decode cX7_key 36 = .ok (.invokevirtual 258, 3) := by decide +kernel
theorem dX7_key_39 : decode cX7_key 39 = .ok (.aload_n 0, 1) := by decide +kernel
theorem dX7_key_40 : decode cX7_key 40 = .ok (.getfield 26, 3) := by decide +kernel
theorem dX7_key_43 : decode cX7_key 43 = .ok (.invokevirtual 261, 3) := by decide +kernel
theorem dX7_key_46 : decode cX7_key 46 = .ok (.ireturn, 1) := by decide +kernel
theorem dX7_tick_0 : decode cX7_tick 0 = .ok (.iload_n 1, 1) := by decide +kernel
theorem dX7_tick_1 : decode cX7_tick 1 = .ok (.bipush 99, 2) := by decide +kernel
theorem dX7_tick_3 : decode cX7_tick 3 = .ok (.invokestatic 170, 3) := by decide +kernel
theorem dX7_tick_6 : decode cX7_tick 6 = .ok (.aload_n 0, 1) := by decide +kernel
theorem dX7_tick_7 : decode cX7_tick 7 = .ok (.getfield 39, 3) := by decide +kernel
theorem dX7_tick_10 : decode cX7_tick 10 = .ok (.aload_n 0, 1) := by decide +kernel
theorem dX7_tick_11 : decode cX7_tick 11 = .ok (.getfield 26, 3) := by decide +kernel
theorem dX7_tick_14 : decode cX7_tick 14 = .ok (.invokevirtual 72, 3) := by decide +kernel
theorem dX7_tick_17 : decode cX7_tick 17 = .ok (.aload_n 0, 1) := by decide +kernel
theorem dX7_tick_18 : decode cX7_tick 18 = .ok (.getfield 26, 3) := by decide +kernel
theorem dX7_tick_21 : decode cX7_tick 21 = .ok (.getfield 197, 3) := by decide +kernel
theorem dX7_tick_24 : decode cX7_tick 24 = .ok (.aload_n 0, 1) := by decide +kernel
theorem dX7_tick_25 : decode cX7_tick 25 = .ok (.getfield 26, 3) := by decide +kernel
theorem dX7_tick_28 : decode cX7_tick 28 = .ok (.getfield 200, 3) := by decide +kernel
theorem dX7_tick_31 : decode cX7_tick 31 = .ok (.iadd, 1) := by decide +kernel
theorem dX7_tick_32 : decode cX7_tick 32 = .ok (.istore_n 2, 1) := by decide +kernel
theorem dX7_tick_33 : decode cX7_tick 33 = .ok (.aload_n 0, 1) := by decide +kernel
theorem dX7_tick_34 : decode cX7_tick 34 = .ok (.getfield 26, 3) := by decide +kernel
theorem dX7_tick_37 : decode cX7_tick 37 = .ok (.iload_n 1, 1) := by decide +kernel
theorem dX7_tick_38 : decode cX7_tick 38 = .ok (.invokevirtual 164, 3) := by decide +kernel
theorem dX7_tick_41 : decode cX7_tick 41 = .ok (.aload_n 0, 1) := by decide +kernel
theorem dX7_tick_42 : decode cX7_tick 42 = .ok (.getfield 26, 3) := by decide +kernel
theorem dX7_tick_45 : decode cX7_tick 45 = .ok (.getfield 197, 3) := by decide +kernel
theorem dX7_tick_48 : decode cX7_tick 48 = .ok (.aload_n 0, 1) := by decide +kernel
theorem dX7_tick_49 : decode cX7_tick 49 = .ok (.getfield 26, 3) := by decide +kernel
theorem dX7_tick_52 : decode cX7_tick 52 = .ok (.getfield 200, 3) := by decide +kernel
theorem dX7_tick_55 : decode cX7_tick 55 = .ok (.iadd, 1) := by decide +kernel
theorem dX7_tick_56 : decode cX7_tick 56 = .ok (.iload_n 2, 1) := by decide +kernel
theorem dX7_tick_57 : decode cX7_tick 57 = .ok (.isub, 1) := by decide +kernel
theorem dX7_tick_58 : decode cX7_tick 58 = .ok (.ireturn, 1) := by decide +kernel
theorem dX7_undo_0 : decode cX7_undo 0 = .ok (.aload_n 0, 1) := by decide +kernel
theorem dX7_undo_1 : decode cX7_undo 1 = .ok (.getfield 39, 3) := by decide +kernel
theorem dX7_undo_4 : decode cX7_undo 4 = .ok (.getfield 264, 3) := by decide +kernel
theorem dX7_undo_7 : decode cX7_undo 7 = .ok (.ifCond .ne 5, 3) := by decide +kernel
theorem dX7_undo_10 : decode cX7_undo 10 = .ok (.iconst (-1), 1) := by decide +kernel
theorem dX7_undo_11 : decode cX7_undo 11 = .ok (.ireturn, 1) := by decide +kernel
theorem dX7_undo_12 : decode cX7_undo 12 = .ok (.aload_n 0, 1) := by decide +kernel
theorem dX7_undo_13 : decode cX7_undo 13 = .ok (.getfield 39, 3) := by decide +kernel
theorem dX7_undo_16 : decode cX7_undo 16 = .ok (.aload_n 0, 1) := by decide +kernel
theorem dX7_undo_17 : decode cX7_undo 17 = .ok (.getfield 26, 3) := by decide +kernel
theorem dX7_undo_20 : decode cX7_undo 20 = .ok (.invokevirtual 267, 3) := by decide +kernel
theorem dX7_undo_23 : decode cX7_undo 23 = .ok (.aload_n 0, 1) := by decide +kernel
theorem dX7_undo_24 : decode cX7_undo 24 = .ok (.getfield 39, 3) := by decide +kernel
theorem dX7_undo_27 : decode cX7_undo 27 = .ok (.getfield 264, 3) := by decide +kernel
theorem dX7_undo_30 : decode cX7_undo 30 = .ok (.ireturn, 1) := by decide +kernel
theorem dX7_checksum_0 : decode cX7_checksum 0 = .ok (.lconst 0, 1) := by decide +kernel
theorem dX7_checksum_1 : decode cX7_checksum 1 = .ok (.lstore_n 1, 1) := by decide +kernel
theorem dX7_checksum_2 : decode cX7_checksum 2 = .ok (.iconst 0, 1) := by decide +kernel
theorem dX7_checksum_3 : decode cX7_checksum 3 = .ok (.istore_n 3, 1) := by decide +kernel
theorem dX7_checksum_4 : decode cX7_checksum 4 = .ok (.iload_n 3, 1) := by decide +kernel
theorem dX7_checksum_5 : decode cX7_checksum 5 = .ok (.bipush 16, 2) := by decide +kernel
theorem dX7_checksum_7 : decode cX7_checksum 7 = .ok (.if_icmp .ge 25, 3) := by decide +kernel
theorem dX7_checksum_10 : decode cX7_checksum 10 = .ok (.ldc2_w 270, 3) := by decide +kernel
theorem dX7_checksum_13 : decode cX7_checksum 13 = .ok (.lload_n 1, 1) := by decide +kernel
theorem dX7_checksum_14 : decode cX7_checksum 14 = .ok (.lmul, 1) := by decide +kernel
theorem dX7_checksum_15 : decode cX7_checksum 15 = .ok (.aload_n 0, 1) := by decide +kernel
theorem dX7_checksum_16 : decode cX7_checksum 16 = .ok (.getfield 26, 3) := by decide +kernel
theorem dX7_checksum_19 : decode cX7_checksum 19 = .ok (.iload_n 3, 1) := by decide +kernel
theorem dX7_checksum_20 : decode cX7_checksum 20 = .ok (.invokevirtual 85, 3) := by decide +kernel
theorem dX7_checksum_23 : decode cX7_checksum 23 = .ok (.i2l, 1) := by decide +kernel
theorem dX7_checksum_24 : decode cX7_checksum 24 = .ok (.ladd, 1) := by decide +kernel
theorem dX7_checksum_25 : decode cX7_checksum 25 = .ok (.lstore_n 1, 1) := by decide +kernel
theorem dX7_checksum_26 : decode cX7_checksum 26 = .ok (.iinc 3 1, 3) := by decide +kernel
theorem dX7_checksum_29 : decode cX7_checksum 29 = .ok (.goto (-25), 3) := by decide +kernel
theorem dX7_checksum_32 : decode cX7_checksum 32 = .ok (.iconst 0, 1) := by decide +kernel
theorem dX7_checksum_33 : decode cX7_checksum 33 = .ok (.istore_n 3, 1) := by decide +kernel
theorem dX7_checksum_34 : decode cX7_checksum 34 = .ok (.iload_n 3, 1) := by decide +kernel
theorem dX7_checksum_35 : decode cX7_checksum 35 = .ok (.aload_n 0, 1) := by decide +kernel
theorem dX7_checksum_36 : decode cX7_checksum 36 = .ok (.getfield 26, 3) := by decide +kernel
theorem dX7_checksum_39 : decode cX7_checksum 39 = .ok (.getfield 75, 3) := by decide +kernel
theorem dX7_checksum_42 : decode cX7_checksum 42 = .ok (.if_icmp .ge 93, 3) := by decide +kernel
theorem dX7_checksum_45 : decode cX7_checksum 45 = .ok (.iload_n 3, 1) := by decide +kernel
theorem dX7_checksum_46 : decode cX7_checksum 46 = .ok (.aload_n 0, 1) := by decide +kernel
theorem dX7_checksum_47 : decode cX7_checksum 47 = .ok (.getfield 26, 3) := by decide +kernel
theorem dX7_checksum_50 : decode cX7_checksum 50 = .ok (.getfield 98, 3) := by decide +kernel
theorem dX7_checksum_53 : decode cX7_checksum 53 = .ok (.arraylength, 1) := by decide +kernel
theorem dX7_checksum_54 : decode cX7_checksum 54 = .ok (.if_icmp .ge 81, 3) := by decide +kernel
theorem dX7_checksum_57 : decode cX7_checksum 57 = .ok (.iconst 0, 1) := by decide +kernel
theorem dX7_checksum_58 : decode cX7_checksum 58 = .ok (.istore 4, 2) := by decide +kernel
theorem dX7_checksum_60 : decode cX7_checksum 60 = .ok (.iload 4, 2) := by decide +kernel
theorem dX7_checksum_62 : decode cX7_checksum 62 = .ok (.bipush 9, 2) := by decide +kernel
theorem dX7_checksum_64 : decode cX7_checksum 64 = .ok (.if_icmp .ge 31, 3) := by decide +kernel
theorem dX7_checksum_67 : decode cX7_checksum 67 = .ok (.ldc2_w 270, 3) := by decide +kernel
theorem dX7_checksum_70 : decode cX7_checksum 70 = .ok (.lload_n 1, 1) := by decide +kernel
theorem dX7_checksum_71 : decode cX7_checksum 71 = .ok (.lmul, 1) := by decide +kernel
theorem dX7_checksum_72 : decode cX7_checksum 72 = .ok (.aload_n 0, 1) := by decide +kernel
theorem dX7_checksum_73 : decode cX7_checksum 73 = .ok (.getfield 26, 3) := by decide +kernel
theorem dX7_checksum_76 : decode cX7_checksum 76 = .ok (.getfield 98, 3) := by decide +kernel
theorem dX7_checksum_79 : decode cX7_checksum 79 = .ok (.iload_n 3, 1) := by decide +kernel
theorem dX7_checksum_80 : decode cX7_checksum 80 = .ok (.aaload, 1) := by decide +kernel
theorem dX7_checksum_81 : decode cX7_checksum 81 = .ok (.iload 4, 2) := by decide +kernel
theorem dX7_checksum_83 : decode cX7_checksum 83 = .ok (.invokevirtual 102, 3) := by decide +kernel
theorem dX7_checksum_86 : decode cX7_checksum 86 = .ok (.i2l, 1) := by decide +kernel
theorem dX7_checksum_87 : decode cX7_checksum 87 = .ok (.ladd, 1) := by decide +kernel
theorem dX7_checksum_88 : decode cX7_checksum 88 = .ok (.lstore_n 1, 1) := by decide +kernel
theorem dX7_checksum_89 : decode cX7_checksum 89 = .ok (.iinc 4 1, 3) := by decide +kernel
theorem dX7_checksum_92 : decode cX7_checksum 92 = .ok (.goto (-32), 3) := by decide +kernel
theorem dX7_checksum_95 : decode cX7_checksum 95 = .ok (.lload_n 1, 1) := by decide +kernel
theorem dX7_checksum_96 : decode cX7_checksum 96 = .ok (.aload_n 0, 1) := by decide +kernel
theorem dX7_checksum_97 : decode cX7_checksum 97 = .ok (.getfield 26, 3) := by decide +kernel
theorem dX7_checksum_100 : decode cX7_checksum 100 = .ok (.getfield 98, 3) := by decide +kernel
theorem dX7_checksum_103 : decode cX7_checksum 103 = .ok (.iload_n 3, 1) := by decide +kernel
theorem dX7_checksum_104 : decode cX7_checksum 104 = .ok (.aaload, 1) := by decide +kernel
theorem dX7_checksum_105 : decode cX7_checksum 105 = .ok (.getfield 272, 3) := by decide +kernel
theorem dX7_checksum_108 : decode cX7_checksum 108 = .ok (.invokestatic 275, 3) := by decide +kernel
theorem dX7_checksum_111 : decode cX7_checksum 111 = .ok (.lstore_n 1, 1) := by decide +kernel
theorem dX7_checksum_112 : decode cX7_checksum 112 = .ok (.lload_n 1, 1) := by decide +kernel
theorem dX7_checksum_113 : decode cX7_checksum 113 = .ok (.aload_n 0, 1) := by decide +kernel
theorem dX7_checksum_114 : decode cX7_checksum 114 = .ok (.getfield 26, 3) := by decide +kernel
theorem dX7_checksum_117 : decode cX7_checksum 117 = .ok (.getfield 98, 3) := by decide +kernel
theorem dX7_checksum_120 : decode cX7_checksum 120 = .ok (.iload_n 3, 1) := by decide +kernel
theorem dX7_checksum_121 : decode cX7_checksum 121 = .ok (.aaload, 1) := by decide +kernel
theorem dX7_checksum_122 : decode cX7_checksum 122 = .ok (.getfield 180, 3) := by decide +kernel
theorem dX7_checksum_125 : decode cX7_checksum 125 = .ok (.invokestatic 275, 3) := by decide +kernel
theorem dX7_checksum_128 : decode cX7_checksum 128 = .ok (.lstore_n 1, 1) := by decide +kernel
theorem dX7_checksum_129 : decode cX7_checksum 129 = .ok (.iinc 3 1, 3) := by decide +kernel
theorem dX7_checksum_132 : decode cX7_checksum 132 = .ok (.goto (-98), 3) := by decide +kernel
theorem dX7_checksum_135 : decode cX7_checksum 135 = .ok (.iconst 0, 1) := by decide +kernel
theorem dX7_checksum_136 : decode cX7_checksum 136 = .ok (.istore_n 3, 1) := by decide +kernel
theorem dX7_checksum_137 : decode cX7_checksum 137 = .ok (.iload_n 3, 1) := by decide +kernel
theorem dX7_checksum_138 : decode cX7_checksum 138 = .ok (.aload_n 0, 1) := by decide +kernel
theorem dX7_checksum_139 : decode cX7_checksum 139 = .ok (.getfield 26, 3) := by decide +kernel
theorem dX7_checksum_142 : decode cX7_checksum 142 = .ok (.getfield 279, 3) := by decide +kernel
theorem dX7_checksum_145 : decode cX7_checksum 145 = .ok (.if_icmp .ge 55, 3) := by decide +kernel
theorem dX7_checksum_148 : decode cX7_checksum 148 = .ok (.iload_n 3, 1) := by decide +kernel
theorem dX7_checksum_149 : decode cX7_checksum 149 = .ok (.aload_n 0, 1) := by decide +kernel
theorem dX7_checksum_150 : decode cX7_checksum 150 = .ok (.getfield 26, 3) := by decide +kernel
theorem dX7_checksum_153 : decode cX7_checksum 153 = .ok (.getfield 135, 3) := by decide +kernel
theorem dX7_checksum_156 : decode cX7_checksum 156 = .ok (.arraylength, 1) := by decide +kernel
theorem dX7_checksum_157 : decode cX7_checksum 157 = .ok (.if_icmp .ge 43, 3) := by decide +kernel
theorem dX7_checksum_160 : decode cX7_checksum 160 = .ok (.iconst 0, 1) := by decide +kernel
theorem dX7_checksum_161 : decode cX7_checksum 161 = .ok (.istore 4, 2) := by decide +kernel
theorem dX7_checksum_163 : decode cX7_checksum 163 = .ok (.iload 4, 2) := by decide +kernel
theorem dX7_checksum_165 : decode cX7_checksum 165 = .ok (.bipush 7, 2) := by decide +kernel
theorem dX7_checksum_167 : decode cX7_checksum 167 = .ok (.if_icmp .ge 27, 3) := by decide +kernel
theorem dX7_checksum_170 : decode cX7_checksum 170 = .ok (.ldc2_w 270, 3) := by decide +kernel
theorem dX7_checksum_173 : decode cX7_checksum 173 = .ok (.lload_n 1, 1) := by decide +kernel
theorem dX7_checksum_174 : decode cX7_checksum 174 = .ok (.lmul, 1) := by decide +kernel
theorem dX7_checksum_175 : decode cX7_checksum 175 = .ok (.aload_n 0, 1) := by decide +kernel
theorem dX7_checksum_176 : decode cX7_checksum 176 = .ok (.getfield 26, 3) := by decide +kernel
theorem dX7_checksum_179 : decode cX7_checksum 179 = .ok (.iload_n 3, 1) := by decide +kernel
theorem dX7_checksum_180 : decode cX7_checksum 180 = .ok (.iload 4, 2) := by decide +kernel
theorem dX7_checksum_182 : decode cX7_checksum 182 = .ok (.invokevirtual 110, 3) := by decide +kernel
theorem dX7_checksum_185 : decode cX7_checksum 185 = .ok (.i2l, 1) := by decide +kernel
theorem dX7_checksum_186 : decode cX7_checksum 186 = .ok (.ladd, 1) := by decide +kernel
theorem dX7_checksum_187 : decode cX7_checksum 187 = .ok (.lstore_n 1, 1) := by decide +kernel
theorem dX7_checksum_188 : decode cX7_checksum 188 = .ok (.iinc 4 1, 3) := by decide +kernel
theorem dX7_checksum_191 : decode cX7_checksum 191 = .ok (.goto (-28), 3) := by decide +kernel
theorem dX7_checksum_194 : decode cX7_checksum 194 = .ok (.iinc 3 1, 3) := by decide +kernel
theorem dX7_checksum_197 : decode cX7_checksum 197 = .ok (.goto (-60), 3) := by decide +kernel
theorem dX7_checksum_200 : decode cX7_checksum 200 = .ok (.lload_n 1, 1) := by decide +kernel
theorem dX7_checksum_201 : decode cX7_checksum 201 = .ok (.lreturn, 1) := by decide +kernel
theorem dX7_withLine_0 : decode cX7_withLine 0 = .ok (.lload_n 0, 1) := by decide +kernel
theorem dX7_withLine_1 : decode cX7_withLine 1 = .ok (.lstore_n 3, 1) := by decide +kernel
theorem dX7_withLine_2 : decode cX7_withLine 2 = .ok (.iconst 0, 1) := by decide +kernel
theorem dX7_withLine_3 : decode cX7_withLine 3 = .ok (.istore 5, 2) := by decide +kernel
theorem dX7_withLine_5 : decode cX7_withLine 5 = .ok (.iload 5, 2) := by decide +kernel
theorem dX7_withLine_7 : decode cX7_withLine 7 = .ok (.aload_n 2, 1) := by decide +kernel
theorem dX7_withLine_8 : decode cX7_withLine 8 = .ok (.getfield 154, 3) := by decide +kernel
theorem dX7_withLine_11 : decode cX7_withLine 11 = .ok (.if_icmp .ge 30, 3) := by decide +kernel
theorem dX7_withLine_14 : decode cX7_withLine 14 = .ok (.iload 5, 2) := by decide +kernel
theorem dX7_withLine_16 : decode cX7_withLine 16 = .ok (.bipush 10, 2) := by decide +kernel
theorem dX7_withLine_18 : decode cX7_withLine 18 = .ok (.if_icmp .ge 23, 3) := by decide +kernel
theorem dX7_withLine_21 : decode cX7_withLine 21 = .ok (.ldc2_w 270, 3) := by decide +kernel
theorem dX7_withLine_24 : decode cX7_withLine 24 = .ok (.lload_n 3, 1) := by decide +kernel
theorem dX7_withLine_25 : decode cX7_withLine 25 = .ok (.lmul, 1) := by decide +kernel
theorem dX7_withLine_26 : decode cX7_withLine 26 = .ok (.aload_n 2, 1) := by decide +kernel
theorem dX7_withLine_27 : decode cX7_withLine 27 = .ok (.iload 5, 2) := by decide +kernel
theorem dX7_withLine_29 : decode cX7_withLine 29 = .ok (.invokevirtual 132, 3) := by decide +kernel
theorem dX7_withLine_32 : decode cX7_withLine 32 = .ok (.i2l, 1) := by decide +kernel
theorem dX7_withLine_33 : decode cX7_withLine 33 = .ok (.ladd, 1) := by decide +kernel
theorem dX7_withLine_34 : decode cX7_withLine 34 = .ok (.lstore_n 3, 1) := by decide +kernel
theorem dX7_withLine_35 : decode cX7_withLine 35 = .ok (.iinc 5 1, 3) := by decide +kernel
theorem dX7_withLine_38 : decode cX7_withLine 38 = .ok (.goto (-33), 3) := by decide +kernel
theorem dX7_withLine_41 : decode cX7_withLine 41 = .ok (.lload_n 3, 1) := by decide +kernel
theorem dX7_withLine_42 : decode cX7_withLine 42 = .ok (.lreturn, 1) := by decide +kernel
theorem dX7_requireBuffered_0 : decode cX7_requireBuffered 0 = .ok (.iload_n 1, 1) := by decide +kernel
theorem dX7_requireBuffered_1 : decode cX7_requireBuffered 1 = .ok (.ifCond .lt 14, 3) := by decide +kernel
theorem dX7_requireBuffered_4 : decode cX7_requireBuffered 4 = .ok (.iload_n 1, 1) := by decide +kernel
theorem dX7_requireBuffered_5 : decode cX7_requireBuffered 5 = .ok (.aload_n 0, 1) := by decide +kernel
theorem dX7_requireBuffered_6 : decode cX7_requireBuffered 6 = .ok (.getfield 10, 3) := by decide +kernel
theorem dX7_requireBuffered_9 : decode cX7_requireBuffered 9 = .ok (.getfield 47, 3) := by decide +kernel
theorem dX7_requireBuffered_12 : decode cX7_requireBuffered 12 = .ok (.if_icmp .le 14, 3) := by decide +kernel
theorem dX7_requireBuffered_15 : decode cX7_requireBuffered 15 = .ok (.new 78, 3) := by decide +kernel
theorem dX7_requireBuffered_18 : decode cX7_requireBuffered 18 = .ok (.dup, 1) := by decide +kernel
theorem dX7_requireBuffered_19 : decode cX7_requireBuffered 19 = .ok (.ldc_w 282, 3) := by decide +kernel
theorem dX7_requireBuffered_22 : decode cX7_requireBuffered 22 = .ok (.invokespecial 82, 3) := by decide +kernel
theorem dX7_requireBuffered_25 : decode cX7_requireBuffered 25 = .ok (.athrow, 1) := by decide +kernel
theorem dX7_requireBuffered_26 : decode cX7_requireBuffered 26 = .ok (.return_, 1) := by decide +kernel
theorem dX7_requireGate_0 : decode cX7_requireGate 0 = .ok (.aload_n 0, 1) := by decide +kernel
theorem dX7_requireGate_1 : decode cX7_requireGate 1 = .ok (.getfield 26, 3) := by decide +kernel
theorem dX7_requireGate_4 : decode cX7_requireGate 4 = .ok (.iload_n 1, 1) := by decide +kernel
theorem dX7_requireGate_5 : decode cX7_requireGate 5 = .ok (.invokevirtual 284, 3) := by decide +kernel
theorem dX7_requireGate_8 : decode cX7_requireGate 8 = .ok (.ifCond .ne 14, 3) := by decide +kernel
theorem dX7_requireGate_11 : decode cX7_requireGate 11 = .ok (.new 287, 3) := by decide +kernel
theorem dX7_requireGate_14 : decode cX7_requireGate 14 = .ok (.dup, 1) := by decide +kernel
theorem dX7_requireGate_15 : decode cX7_requireGate 15 = .ok (.ldc_w 289, 3) := by decide +kernel
theorem dX7_requireGate_18 : decode cX7_requireGate 18 = .ok (.invokespecial 291, 3) := by decide +kernel
theorem dX7_requireGate_21 : decode cX7_requireGate 21 = .ok (.athrow, 1) := by decide +kernel
theorem dX7_requireGate_22 : decode cX7_requireGate 22 = .ok (.return_, 1) := by decide +kernel
theorem dX7_requireCard_0 : decode cX7_requireCard 0 = .ok (.aload_n 0, 1) := by decide +kernel
theorem dX7_requireCard_1 : decode cX7_requireCard 1 = .ok (.getfield 26, 3) := by decide +kernel
theorem dX7_requireCard_4 : decode cX7_requireCard 4 = .ok (.iload_n 1, 1) := by decide +kernel
theorem dX7_requireCard_5 : decode cX7_requireCard 5 = .ok (.invokevirtual 292, 3) := by decide +kernel
theorem dX7_requireCard_8 : decode cX7_requireCard 8 = .ok (.ifCond .ne 14, 3) := by decide +kernel
theorem dX7_requireCard_11 : decode cX7_requireCard 11 = .ok (.new 287, 3) := by decide +kernel
theorem dX7_requireCard_14 : decode cX7_requireCard 14 = .ok (.dup, 1) := by decide +kernel
theorem dX7_requireCard_15 : decode cX7_requireCard 15 = .ok (.ldc_w 295, 3) := by decide +kernel
theorem dX7_requireCard_18 : decode cX7_requireCard 18 = .ok (.invokespecial 291, 3) := by decide +kernel
theorem dX7_requireCard_21 : decode cX7_requireCard 21 = .ok (.athrow, 1) := by decide +kernel
theorem dX7_requireCard_22 : decode cX7_requireCard 22 = .ok (.return_, 1) := by decide +kernel
theorem dX7_requireCardOrNone_0 : decode cX7_requireCardOrNone 0 = .ok (.iload_n 1, 1) := by decide +kernel
theorem dX7_requireCardOrNone_1 : decode cX7_requireCardOrNone 1 = .ok (.iconst (-1), 1) := by decide +kernel
theorem dX7_requireCardOrNone_2 : decode cX7_requireCardOrNone 2 = .ok (.if_icmp .eq 25, 3) := by decide +kernel
theorem dX7_requireCardOrNone_5 : decode cX7_requireCardOrNone 5 = .ok (.aload_n 0, 1) := by decide +kernel
theorem dX7_requireCardOrNone_6 : decode cX7_requireCardOrNone 6 = .ok (.getfield 26, 3) := by decide +kernel
theorem dX7_requireCardOrNone_9 : decode cX7_requireCardOrNone 9 = .ok (.iload_n 1, 1) := by decide +kernel
theorem dX7_requireCardOrNone_10 : decode cX7_requireCardOrNone 10 = .ok (.invokevirtual 292, 3) := by decide +kernel
theorem dX7_requireCardOrNone_13 : decode cX7_requireCardOrNone 13 = .ok (.ifCond .ne 14, 3) := by decide +kernel
theorem dX7_requireCardOrNone_16 : decode cX7_requireCardOrNone 16 = .ok (.new 287, 3) := by decide +kernel
theorem dX7_requireCardOrNone_19 : decode cX7_requireCardOrNone 19 = .ok (.dup, 1) := by decide +kernel
theorem dX7_requireCardOrNone_20 : decode cX7_requireCardOrNone 20 = .ok (.ldc_w 295, 3) := by decide +kernel
theorem dX7_requireCardOrNone_23 : decode cX7_requireCardOrNone 23 = .ok (.invokespecial 291, 3) := by decide +kernel
theorem dX7_requireCardOrNone_26 : decode cX7_requireCardOrNone 26 = .ok (.athrow, 1) := by decide +kernel
theorem dX7_requireCardOrNone_27 : decode cX7_requireCardOrNone 27 = .ok (.return_, 1) := by decide +kernel
theorem dX7_requireSide_0 : decode cX7_requireSide 0 = .ok (.iload_n 0, 1) := by decide +kernel
theorem dX7_requireSide_1 : decode cX7_requireSide 1 = .ok (.ifCond .eq 19, 3) := by decide +kernel
theorem dX7_requireSide_4 : decode cX7_requireSide 4 = .ok (.iload_n 0, 1) := by decide +kernel
theorem dX7_requireSide_5 : decode cX7_requireSide 5 = .ok (.iconst 1, 1) := by decide +kernel
theorem dX7_requireSide_6 : decode cX7_requireSide 6 = .ok (.if_icmp .eq 14, 3) := by decide +kernel
theorem dX7_requireSide_9 : decode cX7_requireSide 9 = .ok (.new 78, 3) := by decide +kernel
theorem dX7_requireSide_12 : decode cX7_requireSide 12 = .ok (.dup, 1) := by decide +kernel
theorem dX7_requireSide_13 : decode cX7_requireSide 13 = .ok (.ldc_w 297, 3) := by decide +kernel
theorem dX7_requireSide_16 : decode cX7_requireSide 16 = .ok (.invokespecial 82, 3) := by decide +kernel
theorem dX7_requireSide_19 : decode cX7_requireSide 19 = .ok (.athrow, 1) := by decide +kernel
theorem dX7_requireSide_20 : decode cX7_requireSide 20 = .ok (.return_, 1) := by decide +kernel
theorem dX7_requireTicks_0 : decode cX7_requireTicks 0 = .ok (.iload_n 0, 1) := by decide +kernel
theorem dX7_requireTicks_1 : decode cX7_requireTicks 1 = .ok (.iconst 1, 1) := by decide +kernel
theorem dX7_requireTicks_2 : decode cX7_requireTicks 2 = .ok (.if_icmp .lt 8, 3) := by decide +kernel
theorem dX7_requireTicks_5 : decode cX7_requireTicks 5 = .ok (.iload_n 0, 1) := by decide +kernel
theorem dX7_requireTicks_6 : decode cX7_requireTicks 6 = .ok (.iload_n 1, 1) := by decide +kernel
theorem dX7_requireTicks_7 : decode cX7_requireTicks 7 = .ok (.if_icmp .le 14, 3) := by decide +kernel
theorem dX7_requireTicks_10 : decode cX7_requireTicks 10 = .ok (.new 78, 3) := by decide +kernel
theorem dX7_requireTicks_13 : decode cX7_requireTicks 13 = .ok (.dup, 1) := by decide +kernel
theorem dX7_requireTicks_14 : decode cX7_requireTicks 14 = .ok (.ldc_w 299, 3) := by decide +kernel
theorem dX7_requireTicks_17 : decode cX7_requireTicks 17 = .ok (.invokespecial 82, 3) := by decide +kernel
theorem dX7_requireTicks_20 : decode cX7_requireTicks 20 = .ok (.athrow, 1) := by decide +kernel
theorem dX7_requireTicks_21 : decode cX7_requireTicks 21 = .ok (.return_, 1) := by decide +kernel
theorem dX8_init_0 : decode cX8_init 0 = .ok (.aload_n 0, 1) := by decide +kernel
theorem dX8_init_1 : decode cX8_init 1 = .ok (.invokespecial 1, 3) := by decide +kernel
theorem dX8_init_4 : decode cX8_init 4 = .ok (.aload_n 0, 1) := by decide +kernel
theorem dX8_init_5 : decode cX8_init 5 = .ok (.iconst 0, 1) := by decide +kernel
theorem dX8_init_6 : decode cX8_init 6 = .ok (.putfield 7, 3) := by decide +kernel
theorem dX8_init_9 : decode cX8_init 9 = .ok (.aload_n 0, 1) := by decide +kernel
theorem dX8_init_10 : decode cX8_init 10 = .ok (.iconst 0, 1) := by decide +kernel
theorem dX8_init_11 : decode cX8_init 11 = .ok (.putfield 13, 3) := by decide +kernel
theorem dX8_init_14 : decode cX8_init 14 = .ok (.aload_n 0, 1) := by decide +kernel
theorem dX8_init_15 : decode cX8_init 15 = .ok (.iconst 0, 1) := by decide +kernel
theorem dX8_init_16 : decode cX8_init 16 = .ok (.putfield 16, 3) := by decide +kernel
theorem dX8_init_19 : decode cX8_init 19 = .ok (.aload_n 0, 1) := by decide +kernel
theorem dX8_init_20 : decode cX8_init 20 = .ok (.iload_n 1, 1) := by decide +kernel
theorem dX8_init_21 : decode cX8_init 21 = .ok (.putfield 20, 3) := by decide +kernel
theorem dX8_init_24 : decode cX8_init 24 = .ok (.return_, 1) := by decide +kernel
theorem dX9_init_0 : decode cX9_init 0 = .ok (.aload_n 0, 1) := by decide +kernel
theorem dX9_init_1 : decode cX9_init 1 = .ok (.invokespecial 1, 3) := by decide +kernel
theorem dX9_init_4 : decode cX9_init 4 = .ok (.aload_n 0, 1) := by decide +kernel
theorem dX9_init_5 : decode cX9_init 5 = .ok (.iconst 0, 1) := by decide +kernel
theorem dX9_init_6 : decode cX9_init 6 = .ok (.putfield 7, 3) := by decide +kernel
theorem dX9_init_9 : decode cX9_init 9 = .ok (.aload_n 0, 1) := by decide +kernel
theorem dX9_init_10 : decode cX9_init 10 = .ok (.iconst (-1), 1) := by decide +kernel
theorem dX9_init_11 : decode cX9_init 11 = .ok (.putfield 13, 3) := by decide +kernel
theorem dX9_init_14 : decode cX9_init 14 = .ok (.aload_n 0, 1) := by decide +kernel
theorem dX9_init_15 : decode cX9_init 15 = .ok (.iconst 0, 1) := by decide +kernel
theorem dX9_init_16 : decode cX9_init 16 = .ok (.putfield 16, 3) := by decide +kernel
theorem dX9_init_19 : decode cX9_init 19 = .ok (.aload_n 0, 1) := by decide +kernel
theorem dX9_init_20 : decode cX9_init 20 = .ok (.iconst 0, 1) := by decide +kernel
theorem dX9_init_21 : decode cX9_init 21 = .ok (.putfield 20, 3) := by decide +kernel
theorem dX9_init_24 : decode cX9_init 24 = .ok (.aload_n 0, 1) := by decide +kernel
theorem dX9_init_25 : decode cX9_init 25 = .ok (.iconst 0, 1) := by decide +kernel
theorem dX9_init_26 : decode cX9_init 26 = .ok (.putfield 23, 3) := by decide +kernel
theorem dX9_init_29 : decode cX9_init 29 = .ok (.aload_n 0, 1) := by decide +kernel
theorem dX9_init_30 : decode cX9_init 30 = .ok (.iconst (-1), 1) := by decide +kernel
theorem dX9_init_31 : decode cX9_init 31 = .ok (.putfield 26, 3) := by decide +kernel
theorem dX9_init_34 : decode cX9_init 34 = .ok (.aload_n 0, 1) := by decide +kernel
theorem dX9_init_35 : decode cX9_init 35 = .ok (.new 29, 3) := by decide +kernel
theorem dX9_init_38 : decode cX9_init 38 = .ok (.dup, 1) := by decide +kernel
theorem dX9_init_39 : decode cX9_init 39 = .ok (.invokespecial 31, 3) := by decide +kernel
theorem dX9_init_42 : decode cX9_init 42 = .ok (.putfield 32, 3) := by decide +kernel
theorem dX9_init_45 : decode cX9_init 45 = .ok (.aload_n 0, 1) := by decide +kernel
theorem dX9_init_46 : decode cX9_init 46 = .ok (.new 29, 3) := by decide +kernel
theorem dX9_init_49 : decode cX9_init 49 = .ok (.dup, 1) := by decide +kernel
theorem dX9_init_50 : decode cX9_init 50 = .ok (.invokespecial 31, 3) := by decide +kernel
theorem dX9_init_53 : decode cX9_init 53 = .ok (.putfield 36, 3) := by decide +kernel
theorem dX9_init_56 : decode cX9_init 56 = .ok (.aload_n 0, 1) := by decide +kernel
theorem dX9_init_57 : decode cX9_init 57 = .ok (.iload_n 1, 1) := by decide +kernel
theorem dX9_init_58 : decode cX9_init 58 = .ok (.putfield 39, 3) := by decide +kernel
theorem dX9_init_61 : decode cX9_init 61 = .ok (.return_, 1) := by decide +kernel
theorem dX9_line_0 : decode cX9_line 0 = .ok (.iload_n 1, 1) := by decide +kernel
theorem dX9_line_1 : decode cX9_line 1 = .ok (.ifCond .ne 10, 3) := by decide +kernel
theorem dX9_line_4 : decode cX9_line 4 = .ok (.aload_n 0, 1) := by decide +kernel
theorem dX9_line_5 : decode cX9_line 5 = .ok (.getfield 32, 3) := by decide +kernel
theorem dX9_line_8 : decode cX9_line 8 = .ok (.goto 7, 3) := by decide +kernel
theorem dX9_line_11 : decode cX9_line 11 = .ok (.aload_n 0, 1) := by decide +kernel
theorem dX9_line_12 : decode cX9_line 12 = .ok (.getfield 36, 3) := by decide +kernel
theorem dX9_line_15 : decode cX9_line 15 = .ok (.areturn, 1) := by decide +kernel
theorem dX9_serves_0 : decode cX9_serves 0 = .ok (.aload_n 0, 1) := by decide +kernel
theorem dX9_serves_1 : decode cX9_serves 1 = .ok (.getfield 39, 3) := by decide +kernel
theorem dX9_serves_4 : decode cX9_serves 4 = .ok (.iconst 2, 1) := by decide +kernel
theorem dX9_serves_5 : decode cX9_serves 5 = .ok (.if_icmp .eq 27, 3) := by decide +kernel
theorem dX9_serves_8 : decode cX9_serves 8 = .ok (.iload_n 1, 1) := by decide +kernel
theorem dX9_serves_9 : decode cX9_serves 9 = .ok (.ifCond .ne 10, 3) := by decide +kernel
theorem dX9_serves_12 : decode cX9_serves 12 = .ok (.aload_n 0, 1) := by decide +kernel
theorem dX9_serves_13 : decode cX9_serves 13 = .ok (.getfield 39, 3) := by decide +kernel
theorem dX9_serves_16 : decode cX9_serves 16 = .ok (.ifCond .eq 16, 3) := by decide +kernel
theorem dX9_serves_19 : decode cX9_serves 19 = .ok (.iload_n 1, 1) := by decide +kernel
theorem dX9_serves_20 : decode cX9_serves 20 = .ok (.iconst 1, 1) := by decide +kernel
theorem dX9_serves_21 : decode cX9_serves 21 = .ok (.if_icmp .ne 15, 3) := by decide +kernel
theorem dX9_serves_24 : decode cX9_serves 24 = .ok (.aload_n 0, 1) := by decide +kernel
theorem dX9_serves_25 : decode cX9_serves 25 = .ok (.getfield 39, 3) := by decide +kernel
theorem dX9_serves_28 : decode cX9_serves 28 = .ok (.iconst 1, 1) := by decide +kernel
theorem dX9_serves_29 : decode cX9_serves 29 = .ok (.if_icmp .ne 7, 3) := by decide +kernel
theorem dX9_serves_32 : decode cX9_serves 32 = .ok (.iconst 1, 1) := by decide +kernel
theorem dX9_serves_33 : decode cX9_serves 33 = .ok (.goto 4, 3) := by decide +kernel
theorem dX9_serves_36 : decode cX9_serves 36 = .ok (.iconst 0, 1) := by decide +kernel
theorem dX9_serves_37 : decode cX9_serves 37 = .ok (.ireturn, 1) := by decide +kernel
theorem dX9_close_0 : decode cX9_close 0 = .ok (.aload_n 0, 1) := by decide +kernel
theorem dX9_close_1 : decode cX9_close 1 = .ok (.iconst 0, 1) := by decide +kernel
theorem dX9_close_2 : decode cX9_close 2 = .ok (.putfield 7, 3) := by decide +kernel
theorem dX9_close_5 : decode cX9_close 5 = .ok (.aload_n 0, 1) := by decide +kernel
theorem dX9_close_6 : decode cX9_close 6 = .ok (.iconst (-1), 1) := by decide +kernel
theorem dX9_close_7 : decode cX9_close 7 = .ok (.putfield 13, 3) := by decide +kernel
theorem dX9_close_10 : decode cX9_close 10 = .ok (.aload_n 0, 1) := by decide +kernel
theorem dX9_close_11 : decode cX9_close 11 = .ok (.iconst 0, 1) := by decide +kernel
theorem dX9_close_12 : decode cX9_close 12 = .ok (.putfield 16, 3) := by decide +kernel
theorem dX9_close_15 : decode cX9_close 15 = .ok (.return_, 1) := by decide +kernel
theorem dX9_next_0 : decode cX9_next 0 = .ok (.aload_n 0, 1) := by decide +kernel
theorem dX9_next_1 : decode cX9_next 1 = .ok (.getfield 39, 3) := by decide +kernel
theorem dX9_next_4 : decode cX9_next 4 = .ok (.ifCond .ne 5, 3) := by decide +kernel
theorem dX9_next_7 : decode cX9_next 7 = .ok (.iconst 0, 1) := by decide +kernel
theorem dX9_next_8 : decode cX9_next 8 = .ok (.ireturn, 1) := by decide +kernel
theorem dX9_next_9 : decode cX9_next 9 = .ok (.aload_n 0, 1) := by decide +kernel
theorem dX9_next_10 : decode cX9_next 10 = .ok (.getfield 39, 3) := by decide +kernel
theorem dX9_next_13 : decode cX9_next 13 = .ok (.iconst 1, 1) := by decide +kernel
theorem dX9_next_14 : decode cX9_next 14 = .ok (.if_icmp .ne 5, 3) := by decide +kernel
theorem dX9_next_17 : decode cX9_next 17 = .ok (.iconst 1, 1) := by decide +kernel
theorem dX9_next_18 : decode cX9_next 18 = .ok (.ireturn, 1) := by decide +kernel
theorem dX9_next_19 : decode cX9_next 19 = .ok (.aload_n 0, 1) := by decide +kernel
theorem dX9_next_20 : decode cX9_next 20 = .ok (.getfield 32, 3) := by decide +kernel
theorem dX9_next_23 : decode cX9_next 23 = .ok (.getfield 42, 3) := by decide +kernel
theorem dX9_next_26 : decode cX9_next 26 = .ok (.aload_n 0, 1) := by decide +kernel
theorem dX9_next_27 : decode cX9_next 27 = .ok (.getfield 36, 3) := by decide +kernel
theorem dX9_next_30 : decode cX9_next 30 = .ok (.getfield 42, 3) := by decide +kernel
theorem dX9_next_33 : decode cX9_next 33 = .ok (.if_icmp .le 5, 3) := by decide +kernel
theorem dX9_next_36 : decode cX9_next 36 = .ok (.iconst 0, 1) := by decide +kernel
theorem dX9_next_37 : decode cX9_next 37 = .ok (.ireturn, 1) := by decide +kernel
theorem dX9_next_38 : decode cX9_next 38 = .ok (.aload_n 0, 1) := by decide +kernel
theorem dX9_next_39 : decode cX9_next 39 = .ok (.getfield 32, 3) := by decide +kernel
theorem dX9_next_42 : decode cX9_next 42 = .ok (.getfield 42, 3) := by decide +kernel
theorem dX9_next_45 : decode cX9_next 45 = .ok (.aload_n 0, 1) := by decide +kernel
theorem dX9_next_46 : decode cX9_next 46 = .ok (.getfield 36, 3) := by decide +kernel
theorem dX9_next_49 : decode cX9_next 49 = .ok (.getfield 42, 3) := by decide +kernel
theorem dX9_next_52 : decode cX9_next 52 = .ok (.if_icmp .ge 5, 3) := by decide +kernel
theorem dX9_next_55 : decode cX9_next 55 = .ok (.iconst 1, 1) := by decide +kernel
theorem dX9_next_56 : decode cX9_next 56 = .ok (.ireturn, 1) := by decide +kernel
theorem dX9_next_57 : decode cX9_next 57 = .ok (.aload_n 0, 1) := by decide +kernel
theorem dX9_next_58 : decode cX9_next 58 = .ok (.getfield 26, 3) := by decide +kernel
theorem dX9_next_61 : decode cX9_next 61 = .ok (.ifCond .ne 7, 3) := by decide +kernel
theorem dX9_next_64 : decode cX9_next 64 = .ok (.iconst 1, 1) := by decide +kernel
theorem dX9_next_65 : decode cX9_next 65 = .ok (.goto 4, 3) := by decide +kernel
theorem dX9_next_68 : decode cX9_next 68 = .ok (.iconst 0, 1) := by decide +kernel
theorem dX9_next_69 : decode cX9_next 69 = .ok (.ireturn, 1) := by decide +kernel
theorem dX9_copy_0 : decode cX9_copy 0 = .ok (.new 8, 3) := by decide +kernel
theorem dX9_copy_3 : decode cX9_copy 3 = .ok (.dup, 1) := by decide +kernel
theorem dX9_copy_4 : decode cX9_copy 4 = .ok (.aload_n 0, 1) := by decide +kernel
theorem dX9_copy_5 : decode cX9_copy 5 = .ok (.getfield 39, 3) := by decide +kernel
theorem dX9_copy_8 : decode cX9_copy 8 = .ok (.invokespecial 45, 3) := by decide +kernel
theorem dX9_copy_11 : decode cX9_copy 11 = .ok (.astore_n 1, 1) := by decide +kernel
theorem dX9_copy_12 : decode cX9_copy 12 = .ok (.aload_n 1, 1) := by decide +kernel
theorem dX9_copy_13 : decode cX9_copy 13 = .ok (.aload_n 0, 1) := by decide +kernel
theorem dX9_copy_14 : decode cX9_copy 14 = .ok (.getfield 7, 3) := by decide +kernel
theorem dX9_copy_17 : decode cX9_copy 17 = .ok (.putfield 7, 3) := by decide +kernel
theorem dX9_copy_20 : decode cX9_copy 20 = .ok (.aload_n 1, 1) := by decide +kernel
theorem dX9_copy_21 : decode cX9_copy 21 = .ok (.aload_n 0, 1) := by decide +kernel
theorem dX9_copy_22 : decode cX9_copy 22 = .ok (.getfield 13, 3) := by decide +kernel
theorem dX9_copy_25 : decode cX9_copy 25 = .ok (.putfield 13, 3) := by decide +kernel
theorem dX9_copy_28 : decode cX9_copy 28 = .ok (.aload_n 1, 1) := by decide +kernel
theorem dX9_copy_29 : decode cX9_copy 29 = .ok (.aload_n 0, 1) := by decide +kernel
theorem dX9_copy_30 : decode cX9_copy 30 = .ok (.getfield 16, 3) := by decide +kernel
theorem dX9_copy_33 : decode cX9_copy 33 = .ok (.putfield 16, 3) := by decide +kernel
theorem dX9_copy_36 : decode cX9_copy 36 = .ok (.aload_n 1, 1) := by decide +kernel
theorem dX9_copy_37 : decode cX9_copy 37 = .ok (.aload_n 0, 1) := by decide +kernel
theorem dX9_copy_38 : decode cX9_copy 38 = .ok (.getfield 20, 3) := by decide +kernel
theorem dX9_copy_41 : decode cX9_copy 41 = .ok (.putfield 20, 3) := by decide +kernel
theorem dX9_copy_44 : decode cX9_copy 44 = .ok (.aload_n 1, 1) := by decide +kernel
theorem dX9_copy_45 : decode cX9_copy 45 = .ok (.aload_n 0, 1) := by decide +kernel
theorem dX9_copy_46 : decode cX9_copy 46 = .ok (.getfield 23, 3) := by decide +kernel
theorem dX9_copy_49 : decode cX9_copy 49 = .ok (.putfield 23, 3) := by decide +kernel
theorem dX9_copy_52 : decode cX9_copy 52 = .ok (.aload_n 1, 1) := by decide +kernel
theorem dX9_copy_53 : decode cX9_copy 53 = .ok (.aload_n 0, 1) := by decide +kernel
theorem dX9_copy_54 : decode cX9_copy 54 = .ok (.getfield 26, 3) := by decide +kernel
theorem dX9_copy_57 : decode cX9_copy 57 = .ok (.putfield 26, 3) := by decide +kernel
theorem dX9_copy_60 : decode cX9_copy 60 = .ok (.aload_n 1, 1) := by decide +kernel
theorem dX9_copy_61 : decode cX9_copy 61 = .ok (.aload_n 0, 1) := by decide +kernel
theorem dX9_copy_62 : decode cX9_copy 62 = .ok (.getfield 32, 3) := by decide +kernel
theorem dX9_copy_65 : decode cX9_copy 65 = .ok (.invokevirtual 48, 3) := by decide +kernel
theorem dX9_copy_68 : decode cX9_copy 68 = .ok (.putfield 32, 3) := by decide +kernel
theorem dX9_copy_71 : decode cX9_copy 71 = .ok (.aload_n 1, 1) := by decide +kernel
theorem dX9_copy_72 : decode cX9_copy 72 = .ok (.aload_n 0, 1) := by decide +kernel
theorem dX9_copy_73 : decode cX9_copy 73 = .ok (.getfield 36, 3) := by decide +kernel
theorem dX9_copy_76 : decode cX9_copy 76 = .ok (.invokevirtual 48, 3) := by decide +kernel
theorem dX9_copy_79 : decode cX9_copy 79 = .ok (.putfield 36, 3) := by decide +kernel
theorem dX9_copy_82 : decode cX9_copy 82 = .ok (.aload_n 1, 1) := by decide +kernel
theorem dX9_copy_83 : decode cX9_copy 83 = .ok (.areturn, 1) := by decide +kernel
theorem dX10_init_0 : decode cX10_init 0 = .ok (.aload_n 0, 1) := by decide +kernel
theorem dX10_init_1 : decode cX10_init 1 = .ok (.invokespecial 1, 3) := by decide +kernel
theorem dX10_init_4 : decode cX10_init 4 = .ok (.aload_n 0, 1) := by decide +kernel
theorem dX10_init_5 : decode cX10_init 5 = .ok (.iconst 0, 1) := by decide +kernel
theorem dX10_init_6 : decode cX10_init 6 = .ok (.putfield 7, 3) := by decide +kernel
theorem dX10_init_9 : decode cX10_init 9 = .ok (.aload_n 0, 1) := by decide +kernel
theorem dX10_init_10 : decode cX10_init 10 = .ok (.bipush 11, 2) := by decide +kernel
theorem dX10_init_12 : decode cX10_init 12 = .ok (.newarray .int, 2) := by decide +kernel
theorem dX10_init_14 : decode cX10_init 14 = .ok (.putfield 13, 3) := by decide +kernel
theorem dX10_init_17 : decode cX10_init 17 = .ok (.return_, 1) := by decide +kernel
theorem dX10_add_0 : decode cX10_add 0 = .ok (.aload_n 0, 1) := by decide +kernel
theorem dX10_add_1 : decode cX10_add 1 = .ok (.getfield 13, 3) := by decide +kernel
theorem dX10_add_4 : decode cX10_add 4 = .ok (.aload_n 0, 1) := by decide +kernel
theorem dX10_add_5 : decode cX10_add 5 = .ok (.getfield 7, 3) := by decide +kernel
theorem dX10_add_8 : decode cX10_add 8 = .ok (.iload_n 1, 1) := by decide +kernel
theorem dX10_add_9 : decode cX10_add 9 = .ok (.iastore, 1) := by decide +kernel
theorem dX10_add_10 : decode cX10_add 10 = .ok (.aload_n 0, 1) := by decide +kernel
theorem dX10_add_11 : decode cX10_add 11 = .ok (.dup, 1) := by decide +kernel
theorem dX10_add_12 : decode cX10_add 12 = .ok (.getfield 7, 3) := by decide +kernel
theorem dX10_add_15 : decode cX10_add 15 = .ok (.iconst 1, 1) := by decide +kernel
theorem dX10_add_16 : decode cX10_add 16 = .ok (.iadd, 1) := by decide +kernel
theorem dX10_add_17 : decode cX10_add 17 = .ok (.putfield 7, 3) := by decide +kernel
theorem dX10_add_20 : decode cX10_add 20 = .ok (.return_, 1) := by decide +kernel
theorem dX10_take_0 : decode cX10_take 0 = .ok (.aload_n 0, 1) := by decide +kernel
theorem dX10_take_1 : decode cX10_take 1 = .ok (.getfield 13, 3) := by decide +kernel
theorem dX10_take_4 : decode cX10_take 4 = .ok (.iload_n 1, 1) := by decide +kernel
theorem dX10_take_5 : decode cX10_take 5 = .ok (.iaload, 1) := by decide +kernel
theorem dX10_take_6 : decode cX10_take 6 = .ok (.istore_n 2, 1) := by decide +kernel
theorem dX10_take_7 : decode cX10_take 7 = .ok (.aload_n 0, 1) := by decide +kernel
theorem dX10_take_8 : decode cX10_take 8 = .ok (.dup, 1) := by decide +kernel
theorem dX10_take_9 : decode cX10_take 9 = .ok (.getfield 7, 3) := by decide +kernel
theorem dX10_take_12 : decode cX10_take 12 = .ok (.iconst 1, 1) := by decide +kernel
theorem dX10_take_13 : decode cX10_take 13 = .ok (.isub, 1) := by decide +kernel
theorem dX10_take_14 : decode cX10_take 14 = .ok (.putfield 7, 3) := by decide +kernel
theorem dX10_take_17 : decode cX10_take 17 = .ok (.iload_n 1, 1) := by decide +kernel
theorem dX10_take_18 : decode cX10_take 18 = .ok (.istore_n 3, 1) := by decide +kernel
theorem dX10_take_19 : decode cX10_take 19 = .ok (.iload_n 3, 1) := by decide +kernel
theorem dX10_take_20 : decode cX10_take 20 = .ok (.aload_n 0, 1) := by decide +kernel
theorem dX10_take_21 : decode cX10_take 21 = .ok (.getfield 7, 3) := by decide +kernel
theorem dX10_take_24 : decode cX10_take 24 = .ok (.if_icmp .ge 23, 3) := by decide +kernel
theorem dX10_take_27 : decode cX10_take 27 = .ok (.aload_n 0, 1) := by decide +kernel
theorem dX10_take_28 : decode cX10_take 28 = .ok (.getfield 13, 3) := by decide +kernel
theorem dX10_take_31 : decode cX10_take 31 = .ok (.iload_n 3, 1) := by decide +kernel
theorem dX10_take_32 : decode cX10_take 32 = .ok (.aload_n 0, 1) := by decide +kernel
theorem dX10_take_33 : decode cX10_take 33 = .ok (.getfield 13, 3) := by decide +kernel
theorem dX10_take_36 : decode cX10_take 36 = .ok (.iload_n 3, 1) := by decide +kernel
theorem dX10_take_37 : decode cX10_take 37 = .ok (.iconst 1, 1) := by decide +kernel
theorem dX10_take_38 : decode cX10_take 38 = .ok (.iadd, 1) := by decide +kernel
theorem dX10_take_39 : decode cX10_take 39 = .ok (.iaload, 1) := by decide +kernel
theorem dX10_take_40 : decode cX10_take 40 = .ok (.iastore, 1) := by decide +kernel
theorem dX10_take_41 : decode cX10_take 41 = .ok (.iinc 3 1, 3) := by decide +kernel
theorem dX10_take_44 : decode cX10_take 44 = .ok (.goto (-25), 3) := by decide +kernel
theorem dX10_take_47 : decode cX10_take 47 = .ok (.iload_n 2, 1) := by decide +kernel
theorem dX10_take_48 : decode cX10_take 48 = .ok (.ireturn, 1) := by decide +kernel
theorem dX10_lead_0 : decode cX10_lead 0 = .ok (.aload_n 0, 1) := by decide +kernel
theorem dX10_lead_1 : decode cX10_lead 1 = .ok (.getfield 7, 3) := by decide +kernel
theorem dX10_lead_4 : decode cX10_lead 4 = .ok (.istore_n 2, 1) := by decide +kernel
theorem dX10_lead_5 : decode cX10_lead 5 = .ok (.iload_n 2, 1) := by decide +kernel
theorem dX10_lead_6 : decode cX10_lead 6 = .ok (.ifCond .le 23, 3) := by decide +kernel
theorem dX10_lead_9 : decode cX10_lead 9 = .ok (.aload_n 0, 1) := by decide +kernel
theorem dX10_lead_10 : decode cX10_lead 10 = .ok (.getfield 13, 3) := by decide +kernel
theorem dX10_lead_13 : decode cX10_lead 13 = .ok (.iload_n 2, 1) := by decide +kernel
theorem dX10_lead_14 : decode cX10_lead 14 = .ok (.aload_n 0, 1) := by decide +kernel
theorem dX10_lead_15 : decode cX10_lead 15 = .ok (.getfield 13, 3) := by decide +kernel
theorem dX10_lead_18 : decode cX10_lead 18 = .ok (.iload_n 2, 1) := by decide +kernel
theorem dX10_lead_19 : decode cX10_lead 19 = .ok (.iconst 1, 1) := by decide +kernel
theorem dX10_lead_20 : decode cX10_lead 20 = .ok (.isub, 1) := by decide +kernel
theorem dX10_lead_21 : decode cX10_lead 21 = .ok (.iaload, 1) := by decide +kernel
theorem dX10_lead_22 : decode cX10_lead 22 = .ok (.iastore, 1) := by decide +kernel
theorem dX10_lead_23 : decode cX10_lead 23 = .ok (.iinc 2 (-1), 3) := by decide +kernel
theorem dX10_lead_26 : decode cX10_lead 26 = .ok (.goto (-21), 3) := by decide +kernel
theorem dX10_lead_29 : decode cX10_lead 29 = .ok (.aload_n 0, 1) := by decide +kernel
theorem dX10_lead_30 : decode cX10_lead 30 = .ok (.getfield 13, 3) := by decide +kernel
theorem dX10_lead_33 : decode cX10_lead 33 = .ok (.iconst 0, 1) := by decide +kernel
theorem dX10_lead_34 : decode cX10_lead 34 = .ok (.iload_n 1, 1) := by decide +kernel
theorem dX10_lead_35 : decode cX10_lead 35 = .ok (.iastore, 1) := by decide +kernel
theorem dX10_lead_36 : decode cX10_lead 36 = .ok (.aload_n 0, 1) := by decide +kernel
theorem dX10_lead_37 : decode cX10_lead 37 = .ok (.dup, 1) := by decide +kernel
theorem dX10_lead_38 : decode cX10_lead 38 = .ok (.getfield 7, 3) := by decide +kernel
theorem dX10_lead_41 : decode cX10_lead 41 = .ok (.iconst 1, 1) := by decide +kernel
theorem dX10_lead_42 : decode cX10_lead 42 = .ok (.iadd, 1) := by decide +kernel
theorem dX10_lead_43 : decode cX10_lead 43 = .ok (.putfield 7, 3) := by decide +kernel
theorem dX10_lead_46 : decode cX10_lead 46 = .ok (.return_, 1) := by decide +kernel
theorem dX10_placeOf_0 : decode cX10_placeOf 0 = .ok (.iconst 0, 1) := by decide +kernel
theorem dX10_placeOf_1 : decode cX10_placeOf 1 = .ok (.istore_n 2, 1) := by decide +kernel
theorem dX10_placeOf_2 : decode cX10_placeOf 2 = .ok (.iload_n 2, 1) := by decide +kernel
theorem dX10_placeOf_3 : decode cX10_placeOf 3 = .ok (.aload_n 0, 1) := by decide +kernel
theorem dX10_placeOf_4 : decode cX10_placeOf 4 = .ok (.getfield 7, 3) := by decide +kernel
theorem dX10_placeOf_7 : decode cX10_placeOf 7 = .ok (.if_icmp .ge 21, 3) := by decide +kernel
theorem dX10_placeOf_10 : decode cX10_placeOf 10 = .ok (.aload_n 0, 1) := by decide +kernel
theorem dX10_placeOf_11 : decode cX10_placeOf 11 = .ok (.getfield 13, 3) := by decide +kernel
theorem dX10_placeOf_14 : decode cX10_placeOf 14 = .ok (.iload_n 2, 1) := by decide +kernel
theorem dX10_placeOf_15 : decode cX10_placeOf 15 = .ok (.iaload, 1) := by decide +kernel
theorem dX10_placeOf_16 : decode cX10_placeOf 16 = .ok (.iload_n 1, 1) := by decide +kernel
theorem dX10_placeOf_17 : decode cX10_placeOf 17 = .ok (.if_icmp .ne 5, 3) := by decide +kernel
theorem dX10_placeOf_20 : decode cX10_placeOf 20 = .ok (.iload_n 2, 1) := by decide +kernel
theorem dX10_placeOf_21 : decode cX10_placeOf 21 = .ok (.ireturn, 1) := by decide +kernel
theorem dX10_placeOf_22 : decode cX10_placeOf 22 = .ok (.iinc 2 1, 3) := by decide +kernel
theorem dX10_placeOf_25 : decode cX10_placeOf 25 = .ok (.goto (-23), 3) := by decide +kernel
theorem dX10_placeOf_28 : decode cX10_placeOf 28 = .ok (.iconst (-1), 1) := by decide +kernel
theorem dX10_placeOf_29 : decode cX10_placeOf 29 = .ok (.ireturn, 1) := by decide +kernel
theorem dX10_firstCard_0 : decode cX10_firstCard 0 = .ok (.iconst 0, 1) := by decide +kernel
theorem dX10_firstCard_1 : decode cX10_firstCard 1 = .ok (.istore_n 1, 1) := by decide +kernel
theorem dX10_firstCard_2 : decode cX10_firstCard 2 = .ok (.iload_n 1, 1) := by decide +kernel
theorem dX10_firstCard_3 : decode cX10_firstCard 3 = .ok (.aload_n 0, 1) := by decide +kernel
theorem dX10_firstCard_4 : decode cX10_firstCard 4 = .ok (.getfield 7, 3) := by decide +kernel
theorem dX10_firstCard_7 : decode cX10_firstCard 7 = .ok (.if_icmp .ge 18, 3) := by decide +kernel
theorem dX10_firstCard_10 : decode cX10_firstCard 10 = .ok (.aload_n 0, 1) := by decide +kernel
theorem dX10_firstCard_11 : decode cX10_firstCard 11 = .ok (.getfield 13, 3) := by decide +kernel
theorem dX10_firstCard_14 : decode cX10_firstCard 14 = .ok (.iload_n 1, 1) := by decide +kernel
theorem dX10_firstCard_15 : decode cX10_firstCard 15 = .ok (.iaload, 1) := by decide +kernel
theorem dX10_firstCard_16 : decode cX10_firstCard 16 = .ok (.ifCond .ge 9, 3) := by decide +kernel
theorem dX10_firstCard_19 : decode cX10_firstCard 19 = .ok (.iinc 1 1, 3) := by decide +kernel
theorem dX10_firstCard_22 : decode cX10_firstCard 22 = .ok (.goto (-20), 3) := by decide +kernel
theorem dX10_firstCard_25 : decode cX10_firstCard 25 = .ok (.iload_n 1, 1) := by decide +kernel
theorem dX10_firstCard_26 : decode cX10_firstCard 26 = .ok (.ireturn, 1) := by decide +kernel
theorem dX10_copy_0 : decode cX10_copy 0 = .ok (.new 8, 3) := by decide +kernel
theorem dX10_copy_3 : decode cX10_copy 3 = .ok (.dup, 1) := by decide +kernel
theorem dX10_copy_4 : decode cX10_copy 4 = .ok (.invokespecial 17, 3) := by decide +kernel
theorem dX10_copy_7 : decode cX10_copy 7 = .ok (.astore_n 1, 1) := by decide +kernel
theorem dX10_copy_8 : decode cX10_copy 8 = .ok (.aload_n 1, 1) := by decide +kernel
theorem dX10_copy_9 : decode cX10_copy 9 = .ok (.aload_n 0, 1) := by decide +kernel
theorem dX10_copy_10 : decode cX10_copy 10 = .ok (.getfield 7, 3) := by decide +kernel
theorem dX10_copy_13 : decode cX10_copy 13 = .ok (.putfield 7, 3) := by decide +kernel
theorem dX10_copy_16 : decode cX10_copy 16 = .ok (.iconst 0, 1) := by decide +kernel
theorem dX10_copy_17 : decode cX10_copy 17 = .ok (.istore_n 2, 1) := by decide +kernel
theorem dX10_copy_18 : decode cX10_copy 18 = .ok (.iload_n 2, 1) := by decide +kernel
theorem dX10_copy_19 : decode cX10_copy 19 = .ok (.aload_n 0, 1) := by decide +kernel
theorem dX10_copy_20 : decode cX10_copy 20 = .ok (.getfield 7, 3) := by decide +kernel
theorem dX10_copy_23 : decode cX10_copy 23 = .ok (.if_icmp .ge 21, 3) := by decide +kernel
theorem dX10_copy_26 : decode cX10_copy 26 = .ok (.aload_n 1, 1) := by decide +kernel
theorem dX10_copy_27 : decode cX10_copy 27 = .ok (.getfield 13, 3) := by decide +kernel
theorem dX10_copy_30 : decode cX10_copy 30 = .ok (.iload_n 2, 1) := by decide +kernel
theorem dX10_copy_31 : decode cX10_copy 31 = .ok (.aload_n 0, 1) := by decide +kernel
theorem dX10_copy_32 : decode cX10_copy 32 = .ok (.getfield 13, 3) := by decide +kernel
theorem dX10_copy_35 : decode cX10_copy 35 = .ok (.iload_n 2, 1) := by decide +kernel
theorem dX10_copy_36 : decode cX10_copy 36 = .ok (.iaload, 1) := by decide +kernel
theorem dX10_copy_37 : decode cX10_copy 37 = .ok (.iastore, 1) := by decide +kernel
theorem dX10_copy_38 : decode cX10_copy 38 = .ok (.iinc 2 1, 3) := by decide +kernel
theorem dX10_copy_41 : decode cX10_copy 41 = .ok (.goto (-23), 3) := by decide +kernel
theorem dX10_copy_44 : decode cX10_copy 44 = .ok (.aload_n 1, 1) := by decide +kernel
theorem dX10_copy_45 : decode cX10_copy 45 = .ok (.areturn, 1) := by decide +kernel
theorem dX11_init_0 : decode cX11_init 0 = .ok (.aload_n 0, 1) := by decide +kernel
theorem dX11_init_1 : decode cX11_init 1 = .ok (.invokespecial 1, 3) := by decide +kernel
theorem dX11_init_4 : decode cX11_init 4 = .ok (.aload_n 0, 1) := by decide +kernel
theorem dX11_init_5 : decode cX11_init 5 = .ok (.iload_n 1, 1) := by decide +kernel
theorem dX11_init_6 : decode cX11_init 6 = .ok (.putfield 7, 3) := by decide +kernel
theorem dX11_init_9 : decode cX11_init 9 = .ok (.return_, 1) := by decide +kernel
theorem dX11_below_0 : decode cX11_below 0 = .ok (.aload_n 0, 1) := by decide +kernel
theorem dX11_below_1 : decode cX11_below 1 = .ok (.ldc 13, 2) := by decide +kernel
theorem dX11_below_3 : decode cX11_below 3 = .ok (.aload_n 0, 1) := by decide +kernel
theorem dX11_below_4 : decode cX11_below 4 = .ok (.getfield 7, 3) := by decide +kernel
theorem dX11_below_7 : decode cX11_below 7 = .ok (.imul, 1) := by decide +kernel
theorem dX11_below_8 : decode cX11_below 8 = .ok (.sipush 12345, 3) := by decide +kernel
theorem dX11_below_11 : decode cX11_below 11 = .ok (.iadd, 1) := by decide +kernel
theorem dX11_below_12 : decode cX11_below 12 = .ok (.putfield 7, 3) := by decide +kernel
theorem dX11_below_15 : decode cX11_below 15 = .ok (.aload_n 0, 1) := by decide +kernel
theorem dX11_below_16 : decode cX11_below 16 = .ok (.getfield 7, 3) := by decide +kernel
theorem dX11_below_19 : decode cX11_below 19 = .ok (.bipush 16, 2) := by decide +kernel
theorem dX11_below_21 : decode cX11_below 21 = .ok (.iushr, 1) := by decide +kernel
theorem dX11_below_22 : decode cX11_below 22 = .ok (.iload_n 1, 1) := by decide +kernel
theorem dX11_below_23 : decode cX11_below 23 = .ok (.irem, 1) := by decide +kernel
theorem dX11_below_24 : decode cX11_below 24 = .ok (.ireturn, 1) := by decide +kernel
theorem dX12_init_0 : decode cX12_init 0 = .ok (.aload_n 0, 1) := by decide +kernel
theorem dX12_init_1 : decode cX12_init 1 = .ok (.invokespecial 1, 3) := by decide +kernel
theorem dX12_init_4 : decode cX12_init 4 = .ok (.aload_n 0, 1) := by decide +kernel
theorem dX12_init_5 : decode cX12_init 5 = .ok (.iconst 3, 1) := by decide +kernel
theorem dX12_init_6 : decode cX12_init 6 = .ok (.putfield 7, 3) := by decide +kernel
theorem dX12_init_9 : decode cX12_init 9 = .ok (.aload_n 0, 1) := by decide +kernel
theorem dX12_init_10 : decode cX12_init 10 = .ok (.iconst 2, 1) := by decide +kernel
theorem dX12_init_11 : decode cX12_init 11 = .ok (.putfield 13, 3) := by decide +kernel
theorem dX12_init_14 : decode cX12_init 14 = .ok (.aload_n 0, 1) := by decide +kernel
theorem dX12_init_15 : decode cX12_init 15 = .ok (.iconst 0, 1) := by decide +kernel
theorem dX12_init_16 : decode cX12_init 16 = .ok (.putfield 16, 3) := by decide +kernel
theorem dX12_init_19 : decode cX12_init 19 = .ok (.aload_n 0, 1) := by decide +kernel
theorem dX12_init_20 : decode cX12_init 20 = .ok (.iconst 0, 1) := by decide +kernel
theorem dX12_init_21 : decode cX12_init 21 = .ok (.putfield 19, 3) := by decide +kernel
theorem dX12_init_24 : decode cX12_init 24 = .ok (.aload_n 0, 1) := by decide +kernel
theorem dX12_init_25 : decode cX12_init 25 = .ok (.iconst 0, 1) := by decide +kernel
theorem dX12_init_26 : decode cX12_init 26 = .ok (.putfield 22, 3) := by decide +kernel
theorem dX12_init_29 : decode cX12_init 29 = .ok (.aload_n 0, 1) := by decide +kernel
theorem dX12_init_30 : decode cX12_init 30 = .ok (.bipush 6, 2) := by decide +kernel
theorem dX12_init_32 : decode cX12_init 32 = .ok (.anewarray 25, 3) := by decide +kernel
theorem dX12_init_35 : decode cX12_init 35 = .ok (.putfield 27, 3) := by decide +kernel
theorem dX12_init_38 : decode cX12_init 38 = .ok (.aload_n 0, 1) := by decide +kernel
theorem dX12_init_39 : decode cX12_init 39 = .ok (.iconst 0, 1) := by decide +kernel
theorem dX12_init_40 : decode cX12_init 40 = .ok (.putfield 31, 3) := by decide +kernel
theorem dX12_init_43 : decode cX12_init 43 = .ok (.aload_n 0, 1) := by decide +kernel
theorem dX12_init_44 : decode cX12_init 44 = .ok (.bipush 12, 2) := by decide +kernel
theorem dX12_init_46 : decode cX12_init 46 = .ok (.anewarray 34, 3) := by decide +kernel
theorem dX12_init_49 : decode cX12_init 49 = .ok (.putfield 36, 3) := by decide +kernel
theorem dX12_init_52 : decode cX12_init 52 = .ok (.aload_n 0, 1) := by decide +kernel
theorem dX12_init_53 : decode cX12_init 53 = .ok (.iconst 3, 1) := by decide +kernel
theorem dX12_init_54 : decode cX12_init 54 = .ok (.newarray .boolean, 2) := by decide +kernel
theorem dX12_init_56 : decode cX12_init 56 = .ok (.putfield 40, 3) := by decide +kernel
theorem dX12_init_59 : decode cX12_init 59 = .ok (.aload_n 0, 1) := by decide +kernel
theorem dX12_init_60 : decode cX12_init 60 = .ok (.iconst 0, 1) := by decide +kernel
theorem dX12_init_61 : decode cX12_init 61 = .ok (.putfield 44, 3) := by decide +kernel
theorem dX12_init_64 : decode cX12_init 64 = .ok (.aload_n 0, 1) := by decide +kernel
theorem dX12_init_65 : decode cX12_init 65 = .ok (.iconst 0, 1) := by decide +kernel
theorem dX12_init_66 : decode cX12_init 66 = .ok (.putfield 47, 3) := by decide +kernel
theorem dX12_init_69 : decode cX12_init 69 = .ok (.aload_n 0, 1) := by decide +kernel
theorem dX12_init_70 : decode cX12_init 70 = .ok (.iconst 0, 1) := by decide +kernel
theorem dX12_init_71 : decode cX12_init 71 = .ok (.putfield 50, 3) := by decide +kernel
theorem dX12_init_74 : decode cX12_init 74 = .ok (.aload_n 0, 1) := by decide +kernel
theorem dX12_init_75 : decode cX12_init 75 = .ok (.iconst 0, 1) := by decide +kernel
theorem dX12_init_76 : decode cX12_init 76 = .ok (.putfield 53, 3) := by decide +kernel
theorem dX12_init_79 : decode cX12_init 79 = .ok (.aload_n 0, 1) := by decide +kernel
theorem dX12_init_80 : decode cX12_init 80 = .ok (.iconst 0, 1) := by decide +kernel
theorem dX12_init_81 : decode cX12_init 81 = .ok (.putfield 56, 3) := by decide +kernel
theorem dX12_init_84 : decode cX12_init 84 = .ok (.aload_n 0, 1) := by decide +kernel
theorem dX12_init_85 : decode cX12_init 85 = .ok (.iconst 0, 1) := by decide +kernel
theorem dX12_init_86 : decode cX12_init 86 = .ok (.putfield 59, 3) := by decide +kernel
theorem dX12_init_89 : decode cX12_init 89 = .ok (.return_, 1) := by decide +kernel
theorem dX12_copy_0 : decode cX12_copy 0 = .ok (.new 8, 3) := by decide +kernel
theorem dX12_copy_3 : decode cX12_copy 3 = .ok (.dup, 1) := by decide +kernel
theorem dX12_copy_4 : decode cX12_copy 4 = .ok (.invokespecial 62, 3) := by decide +kernel
theorem dX12_copy_7 : decode cX12_copy 7 = .ok (.astore_n 1, 1) := by decide +kernel
theorem dX12_copy_8 : decode cX12_copy 8 = .ok (.aload_n 1, 1) := by decide +kernel
theorem dX12_copy_9 : decode cX12_copy 9 = .ok (.aload_n 0, 1) := by decide +kernel
theorem dX12_copy_10 : decode cX12_copy 10 = .ok (.getfield 7, 3) := by decide +kernel
theorem dX12_copy_13 : decode cX12_copy 13 = .ok (.putfield 7, 3) := by decide +kernel
theorem dX12_copy_16 : decode cX12_copy 16 = .ok (.aload_n 1, 1) := by decide +kernel
theorem dX12_copy_17 : decode cX12_copy 17 = .ok (.aload_n 0, 1) := by decide +kernel
theorem dX12_copy_18 : decode cX12_copy 18 = .ok (.getfield 13, 3) := by decide +kernel
theorem dX12_copy_21 : decode cX12_copy 21 = .ok (.putfield 13, 3) := by decide +kernel
theorem dX12_copy_24 : decode cX12_copy 24 = .ok (.aload_n 1, 1) := by decide +kernel
theorem dX12_copy_25 : decode cX12_copy 25 = .ok (.aload_n 0, 1) := by decide +kernel
theorem dX12_copy_26 : decode cX12_copy 26 = .ok (.getfield 16, 3) := by decide +kernel
theorem dX12_copy_29 : decode cX12_copy 29 = .ok (.putfield 16, 3) := by decide +kernel
theorem dX12_copy_32 : decode cX12_copy 32 = .ok (.aload_n 1, 1) := by decide +kernel
theorem dX12_copy_33 : decode cX12_copy 33 = .ok (.aload_n 0, 1) := by decide +kernel
theorem dX12_copy_34 : decode cX12_copy 34 = .ok (.getfield 19, 3) := by decide +kernel
theorem dX12_copy_37 : decode cX12_copy 37 = .ok (.putfield 19, 3) := by decide +kernel
theorem dX12_copy_40 : decode cX12_copy 40 = .ok (.aload_n 1, 1) := by decide +kernel
theorem dX12_copy_41 : decode cX12_copy 41 = .ok (.aload_n 0, 1) := by decide +kernel
theorem dX12_copy_42 : decode cX12_copy 42 = .ok (.getfield 22, 3) := by decide +kernel
theorem dX12_copy_45 : decode cX12_copy 45 = .ok (.putfield 22, 3) := by decide +kernel
theorem dX12_copy_48 : decode cX12_copy 48 = .ok (.aload_n 1, 1) := by decide +kernel
theorem dX12_copy_49 : decode cX12_copy 49 = .ok (.aload_n 0, 1) := by decide +kernel
theorem dX12_copy_50 : decode cX12_copy 50 = .ok (.getfield 31, 3) := by decide +kernel
theorem dX12_copy_53 : decode cX12_copy 53 = .ok (.putfield 31, 3) := by decide +kernel
theorem dX12_copy_56 : decode cX12_copy 56 = .ok (.aload_n 1, 1) := by decide +kernel
theorem dX12_copy_57 : decode cX12_copy 57 = .ok (.aload_n 0, 1) := by decide +kernel
theorem dX12_copy_58 : decode cX12_copy 58 = .ok (.getfield 44, 3) := by decide +kernel
theorem dX12_copy_61 : decode cX12_copy 61 = .ok (.putfield 44, 3) := by decide +kernel
theorem dX12_copy_64 : decode cX12_copy 64 = .ok (.aload_n 1, 1) := by decide +kernel
theorem dX12_copy_65 : decode cX12_copy 65 = .ok (.aload_n 0, 1) := by decide +kernel
theorem dX12_copy_66 : decode cX12_copy 66 = .ok (.getfield 47, 3) := by decide +kernel
theorem dX12_copy_69 : decode cX12_copy 69 = .ok (.putfield 47, 3) := by decide +kernel
theorem dX12_copy_72 : decode cX12_copy 72 = .ok (.aload_n 1, 1) := by decide +kernel
theorem dX12_copy_73 : decode cX12_copy 73 = .ok (.aload_n 0, 1) := by decide +kernel
theorem dX12_copy_74 : decode cX12_copy 74 = .ok (.getfield 50, 3) := by decide +kernel
theorem dX12_copy_77 : decode cX12_copy 77 = .ok (.putfield 50, 3) := by decide +kernel
theorem dX12_copy_80 : decode cX12_copy 80 = .ok (.aload_n 1, 1) := by decide +kernel
theorem dX12_copy_81 : decode cX12_copy 81 = .ok (.aload_n 0, 1) := by decide +kernel
theorem dX12_copy_82 : decode cX12_copy 82 = .ok (.getfield 53, 3) := by decide +kernel
theorem dX12_copy_85 : decode cX12_copy 85 = .ok (.putfield 53, 3) := by decide +kernel
theorem dX12_copy_88 : decode cX12_copy 88 = .ok (.aload_n 1, 1) := by decide +kernel
theorem dX12_copy_89 : decode cX12_copy 89 = .ok (.aload_n 0, 1) := by decide +kernel
theorem dX12_copy_90 : decode cX12_copy 90 = .ok (.getfield 56, 3) := by decide +kernel
theorem dX12_copy_93 : decode cX12_copy 93 = .ok (.putfield 56, 3) := by decide +kernel
theorem dX12_copy_96 : decode cX12_copy 96 = .ok (.aload_n 1, 1) := by decide +kernel
theorem dX12_copy_97 : decode cX12_copy 97 = .ok (.aload_n 0, 1) := by decide +kernel
theorem dX12_copy_98 : decode cX12_copy 98 = .ok (.getfield 59, 3) := by decide +kernel
theorem dX12_copy_101 : decode cX12_copy 101 = .ok (.putfield 59, 3) := by decide +kernel
theorem dX12_copy_104 : decode cX12_copy 104 = .ok (.iconst 0, 1) := by decide +kernel
theorem dX12_copy_105 : decode cX12_copy 105 = .ok (.istore_n 2, 1) := by decide +kernel
theorem dX12_copy_106 : decode cX12_copy 106 = .ok (.iload_n 2, 1) := by decide +kernel
theorem dX12_copy_107 : decode cX12_copy 107 = .ok (.aload_n 0, 1) := by decide +kernel
theorem dX12_copy_108 : decode cX12_copy 108 = .ok (.getfield 22, 3) := by decide +kernel
theorem dX12_copy_111 : decode cX12_copy 111 = .ok (.if_icmp .ge 24, 3) := by decide +kernel
theorem dX12_copy_114 : decode cX12_copy 114 = .ok (.aload_n 1, 1) := by decide +kernel
theorem dX12_copy_115 : decode cX12_copy 115 = .ok (.getfield 27, 3) := by decide +kernel
theorem dX12_copy_118 : decode cX12_copy 118 = .ok (.iload_n 2, 1) := by decide +kernel
theorem dX12_copy_119 : decode cX12_copy 119 = .ok (.aload_n 0, 1) := by decide +kernel
theorem dX12_copy_120 : decode cX12_copy 120 = .ok (.getfield 27, 3) := by decide +kernel
theorem dX12_copy_123 : decode cX12_copy 123 = .ok (.iload_n 2, 1) := by decide +kernel
theorem dX12_copy_124 : decode cX12_copy 124 = .ok (.aaload, 1) := by decide +kernel
theorem dX12_copy_125 : decode cX12_copy 125 = .ok (.invokevirtual 63, 3) := by decide +kernel
theorem dX12_copy_128 : decode cX12_copy 128 = .ok (.aastore, 1) := by decide +kernel
theorem dX12_copy_129 : decode cX12_copy 129 = .ok (.iinc 2 1, 3) := by decide +kernel
theorem dX12_copy_132 : decode cX12_copy 132 = .ok (.goto (-26), 3) := by decide +kernel
theorem dX12_copy_135 : decode cX12_copy 135 = .ok (.iconst 0, 1) := by decide +kernel
theorem dX12_copy_136 : decode cX12_copy 136 = .ok (.istore_n 2, 1) := by decide +kernel
theorem dX12_copy_137 : decode cX12_copy 137 = .ok (.iload_n 2, 1) := by decide +kernel
theorem dX12_copy_138 : decode cX12_copy 138 = .ok (.aload_n 0, 1) := by decide +kernel
theorem dX12_copy_139 : decode cX12_copy 139 = .ok (.getfield 31, 3) := by decide +kernel
theorem dX12_copy_142 : decode cX12_copy 142 = .ok (.if_icmp .ge 85, 3) := by decide +kernel
theorem dX12_copy_145 : decode cX12_copy 145 = .ok (.aload_n 1, 1) := by decide +kernel
theorem dX12_copy_146 : decode cX12_copy 146 = .ok (.getfield 36, 3) := by decide +kernel
theorem dX12_copy_149 : decode cX12_copy 149 = .ok (.iload_n 2, 1) := by decide +kernel
theorem dX12_copy_150 : decode cX12_copy 150 = .ok (.new 34, 3) := by decide +kernel
theorem dX12_copy_153 : decode cX12_copy 153 = .ok (.dup, 1) := by decide +kernel
theorem dX12_copy_154 : decode cX12_copy 154 = .ok (.aload_n 0, 1) := by decide +kernel
theorem dX12_copy_155 : decode cX12_copy 155 = .ok (.getfield 36, 3) := by decide +kernel
theorem dX12_copy_158 : decode cX12_copy 158 = .ok (.iload_n 2, 1) := by decide +kernel
theorem dX12_copy_159 : decode cX12_copy 159 = .ok (.aaload, 1) := by decide +kernel
theorem dX12_copy_160 : decode cX12_copy 160 = .ok (.getfield 67, 3) := by decide +kernel
theorem dX12_copy_163 : decode cX12_copy 163 = .ok (.invokespecial 70, 3) := by decide +kernel
theorem dX12_copy_166 : decode cX12_copy 166 = .ok (.aastore, 1) := by decide +kernel
theorem dX12_copy_167 : decode cX12_copy 167 = .ok (.aload_n 1, 1) := by decide +kernel
theorem dX12_copy_168 : decode cX12_copy 168 = .ok (.getfield 36, 3) := by decide +kernel
theorem dX12_copy_171 : decode cX12_copy 171 = .ok (.iload_n 2, 1) := by decide +kernel
theorem dX12_copy_172 : decode cX12_copy 172 = .ok (.aaload, 1) := by decide +kernel
theorem dX12_copy_173 : decode cX12_copy 173 = .ok (.aload_n 0, 1) := by decide +kernel
theorem dX12_copy_174 : decode cX12_copy 174 = .ok (.getfield 36, 3) := by decide +kernel
theorem dX12_copy_177 : decode cX12_copy 177 = .ok (.iload_n 2, 1) := by decide +kernel
theorem dX12_copy_178 : decode cX12_copy 178 = .ok (.aaload, 1) := by decide +kernel
theorem dX12_copy_179 : decode cX12_copy 179 = .ok (.getfield 73, 3) := by decide +kernel
theorem dX12_copy_182 : decode cX12_copy 182 = .ok (.putfield 73, 3) := by decide +kernel
theorem dX12_copy_185 : decode cX12_copy 185 = .ok (.aload_n 1, 1) := by decide +kernel
theorem dX12_copy_186 : decode cX12_copy 186 = .ok (.getfield 36, 3) := by decide +kernel
theorem dX12_copy_189 : decode cX12_copy 189 = .ok (.iload_n 2, 1) := by decide +kernel
theorem dX12_copy_190 : decode cX12_copy 190 = .ok (.aaload, 1) := by decide +kernel
theorem dX12_copy_191 : decode cX12_copy 191 = .ok (.aload_n 0, 1) := by decide +kernel
theorem dX12_copy_192 : decode cX12_copy 192 = .ok (.getfield 36, 3) := by decide +kernel
theorem dX12_copy_195 : decode cX12_copy 195 = .ok (.iload_n 2, 1) := by decide +kernel
theorem dX12_copy_196 : decode cX12_copy 196 = .ok (.aaload, 1) := by decide +kernel
theorem dX12_copy_197 : decode cX12_copy 197 = .ok (.getfield 77, 3) := by decide +kernel
theorem dX12_copy_200 : decode cX12_copy 200 = .ok (.putfield 77, 3) := by decide +kernel
theorem dX12_copy_203 : decode cX12_copy 203 = .ok (.aload_n 1, 1) := by decide +kernel
theorem dX12_copy_204 : decode cX12_copy 204 = .ok (.getfield 36, 3) := by decide +kernel
theorem dX12_copy_207 : decode cX12_copy 207 = .ok (.iload_n 2, 1) := by decide +kernel
theorem dX12_copy_208 : decode cX12_copy 208 = .ok (.aaload, 1) := by decide +kernel
theorem dX12_copy_209 : decode cX12_copy 209 = .ok (.aload_n 0, 1) := by decide +kernel
theorem dX12_copy_210 : decode cX12_copy 210 = .ok (.getfield 36, 3) := by decide +kernel
theorem dX12_copy_213 : decode cX12_copy 213 = .ok (.iload_n 2, 1) := by decide +kernel
theorem dX12_copy_214 : decode cX12_copy 214 = .ok (.aaload, 1) := by decide +kernel
theorem dX12_copy_215 : decode cX12_copy 215 = .ok (.getfield 80, 3) := by decide +kernel
theorem dX12_copy_218 : decode cX12_copy 218 = .ok (.putfield 80, 3) := by decide +kernel
theorem dX12_copy_221 : decode cX12_copy 221 = .ok (.iinc 2 1, 3) := by decide +kernel
theorem dX12_copy_224 : decode cX12_copy 224 = .ok (.goto (-87), 3) := by decide +kernel
theorem dX12_copy_227 : decode cX12_copy 227 = .ok (.iconst 0, 1) := by decide +kernel
theorem dX12_copy_228 : decode cX12_copy 228 = .ok (.istore_n 2, 1) := by decide +kernel
theorem dX12_copy_229 : decode cX12_copy 229 = .ok (.iload_n 2, 1) := by decide +kernel
theorem dX12_copy_230 : decode cX12_copy 230 = .ok (.iconst 3, 1) := by decide +kernel
theorem dX12_copy_231 : decode cX12_copy 231 = .ok (.if_icmp .ge 21, 3) := by decide +kernel
theorem dX12_copy_234 : decode cX12_copy 234 = .ok (.aload_n 1, 1) := by decide +kernel
theorem dX12_copy_235 : decode cX12_copy 235 = .ok (.getfield 40, 3) := by decide +kernel
theorem dX12_copy_238 : decode cX12_copy 238 = .ok (.iload_n 2, 1) := by decide +kernel
theorem dX12_copy_239 : decode cX12_copy 239 = .ok (.aload_n 0, 1) := by decide +kernel
theorem dX12_copy_240 : decode cX12_copy 240 = .ok (.getfield 40, 3) := by decide +kernel
theorem dX12_copy_243 : decode cX12_copy 243 = .ok (.iload_n 2, 1) := by decide +kernel
theorem dX12_copy_244 : decode cX12_copy 244 = .ok (.baload, 1) := by decide +kernel
theorem dX12_copy_245 : decode cX12_copy 245 = .ok (.bastore, 1) := by decide +kernel
theorem dX12_copy_246 : decode cX12_copy 246 = .ok (.iinc 2 1, 3) := by decide +kernel
theorem dX12_copy_249 : decode cX12_copy 249 = .ok (.goto (-20), 3) := by decide +kernel
theorem dX12_copy_252 : decode cX12_copy 252 = .ok (.aload_n 1, 1) := by decide +kernel
theorem dX12_copy_253 : decode cX12_copy 253 = .ok (.areturn, 1) := by decide +kernel
theorem dX12_turned_0 : decode cX12_turned 0 = .ok (.aload_n 0, 1) := by decide +kernel
theorem dX12_turned_1 : decode cX12_turned 1 = .ok (.getfield 40, 3) := by decide +kernel
theorem dX12_turned_4 : decode cX12_turned 4 = .ok (.iconst 0, 1) := by decide +kernel
theorem dX12_turned_5 : decode cX12_turned 5 = .ok (.baload, 1) := by decide +kernel
theorem dX12_turned_6 : decode cX12_turned 6 = .ok (.ifCond .eq 7, 3) := by decide +kernel
theorem dX12_turned_9 : decode cX12_turned 9 = .ok (.iconst 1, 1) := by decide +kernel
theorem dX12_turned_10 : decode cX12_turned 10 = .ok (.goto 4, 3) := by decide +kernel
theorem dX12_turned_13 : decode cX12_turned 13 = .ok (.iconst 0, 1) := by decide +kernel
theorem dX12_turned_14 : decode cX12_turned 14 = .ok (.aload_n 0, 1) := by decide +kernel
theorem dX12_turned_15 : decode cX12_turned 15 = .ok (.getfield 40, 3) := by decide +kernel
theorem dX12_turned_18 : decode cX12_turned 18 = .ok (.iconst 1, 1) := by decide +kernel
theorem dX12_turned_19 : decode cX12_turned 19 = .ok (.baload, 1) := by decide +kernel
theorem dX12_turned_20 : decode cX12_turned 20 = .ok (.ifCond .eq 7, 3) := by decide +kernel
theorem dX12_turned_23 : decode cX12_turned 23 = .ok (.iconst 1, 1) := by decide +kernel
theorem dX12_turned_24 : decode cX12_turned 24 = .ok (.goto 4, 3) := by decide +kernel
theorem dX12_turned_27 : decode cX12_turned 27 = .ok (.iconst 0, 1) := by decide +kernel
theorem dX12_turned_28 : decode cX12_turned 28 = .ok (.iadd, 1) := by decide +kernel
theorem dX12_turned_29 : decode cX12_turned 29 = .ok (.aload_n 0, 1) := by decide +kernel
theorem dX12_turned_30 : decode cX12_turned 30 = .ok (.getfield 40, 3) := by decide +kernel
theorem dX12_turned_33 : decode cX12_turned 33 = .ok (.iconst 2, 1) := by decide +kernel
theorem dX12_turned_34 : decode cX12_turned 34 = .ok (.baload, 1) := by decide +kernel
theorem dX12_turned_35 : decode cX12_turned 35 = .ok (.ifCond .eq 7, 3) := by decide +kernel
theorem dX12_turned_38 : decode cX12_turned 38 = .ok (.iconst 1, 1) := by decide +kernel
theorem dX12_turned_39 : decode cX12_turned 39 = .ok (.goto 4, 3) := by decide +kernel
theorem dX12_turned_42 : decode cX12_turned 42 = .ok (.iconst 0, 1) := by decide +kernel
theorem dX12_turned_43 : decode cX12_turned 43 = .ok (.iadd, 1) := by decide +kernel
theorem dX12_turned_44 : decode cX12_turned 44 = .ok (.ireturn, 1) := by decide +kernel
theorem dX12_isPanic_0 : decode cX12_isPanic 0 = .ok (.aload_n 0, 1) := by decide +kernel
theorem dX12_isPanic_1 : decode cX12_isPanic 1 = .ok (.invokevirtual 83, 3) := by decide +kernel
theorem dX12_isPanic_4 : decode cX12_isPanic 4 = .ok (.iconst 2, 1) := by decide +kernel
theorem dX12_isPanic_5 : decode cX12_isPanic 5 = .ok (.if_icmp .lt 7, 3) := by decide +kernel
theorem dX12_isPanic_8 : decode cX12_isPanic 8 = .ok (.iconst 1, 1) := by decide +kernel
theorem dX12_isPanic_9 : decode cX12_isPanic 9 = .ok (.goto 4, 3) := by decide +kernel
theorem dX12_isPanic_12 : decode cX12_isPanic 12 = .ok (.iconst 0, 1) := by decide +kernel
theorem dX12_isPanic_13 : decode cX12_isPanic 13 = .ok (.ireturn, 1) := by decide +kernel
theorem dX12_key_0 : decode cX12_key 0 = .ok (.aload_n 0, 1) := by decide +kernel
theorem dX12_key_1 : decode cX12_key 1 = .ok (.invokevirtual 87, 3) := by decide +kernel
theorem dX12_key_4 : decode cX12_key 4 = .ok (.istore_n 2, 1) := by decide +kernel
theorem dX12_key_5 : decode cX12_key 5 = .ok (.aload_n 0, 1) := by decide +kernel
theorem dX12_key_6 : decode cX12_key 6 = .ok (.getfield 40, 3) := by decide +kernel
theorem dX12_key_9 : decode cX12_key 9 = .ok (.iload_n 1, 1) := by decide +kernel
theorem dX12_key_10 : decode cX12_key 10 = .ok (.aload_n 0, 1) := by decide +kernel
theorem dX12_key_11 : decode cX12_key 11 = .ok (.getfield 40, 3) := by decide +kernel
theorem dX12_key_14 : decode cX12_key 14 = .ok (.iload_n 1, 1) := by decide +kernel
theorem dX12_key_15 : decode cX12_key 15 = .ok (.baload, 1) := by decide +kernel
theorem dX12_key_16 : decode cX12_key 16 = .ok (.ifCond .ne 7, 3) := by decide +kernel
theorem dX12_key_19 : decode cX12_key 19 = .ok (.iconst 1, 1) := by decide +kernel
theorem dX12_key_20 : decode cX12_key 20 = .ok (.goto 4, 3) := by decide +kernel
theorem dX12_key_23 : decode cX12_key 23 = .ok (.iconst 0, 1) := by decide +kernel
theorem dX12_key_24 : decode cX12_key 24 = .ok (.bastore, 1) := by decide +kernel
theorem dX12_key_25 : decode cX12_key 25 = .ok (.aload_n 0, 1) := by decide +kernel
theorem dX12_key_26 : decode cX12_key 26 = .ok (.invokevirtual 87, 3) := by decide +kernel
theorem dX12_key_29 : decode cX12_key 29 = .ok (.ifCond .eq 32, 3) := by decide +kernel
theorem dX12_key_32 : decode cX12_key 32 = .ok (.iload_n 2, 1) := by decide +kernel
theorem dX12_key_33 : decode cX12_key 33 = .ok (.ifCond .ne 28, 3) := by decide +kernel
theorem dX12_key_36 : decode cX12_key 36 = .ok (.iconst 0, 1) := by decide +kernel
theorem dX12_key_37 : decode cX12_key 37 = .ok (.istore_n 3, 1) := by decide +kernel
theorem dX12_key_38 : decode cX12_key 38 = .ok (.iload_n 3, 1) := by decide +kernel
theorem dX12_key_39 : decode cX12_key 39 = .ok (.aload_n 0, 1) := by decide +kernel
theorem dX12_key_40 : decode cX12_key 40 = .ok (.getfield 22, 3) := by decide +kernel
theorem dX12_key_43 : decode cX12_key 43 = .ok (.if_icmp .ge 18, 3) := by decide +kernel
theorem dX12_key_46 : decode cX12_key 46 = .ok (.aload_n 0, 1) := by decide +kernel
theorem dX12_key_47 : decode cX12_key 47 = .ok (.getfield 27, 3) := by decide +kernel
theorem dX12_key_50 : decode cX12_key 50 = .ok (.iload_n 3, 1) := by decide +kernel
theorem dX12_key_51 : decode cX12_key 51 = .ok (.aaload, 1) := by decide +kernel
theorem dX12_key_52 : decode cX12_key 52 = .ok (.invokevirtual 91, 3) := by decide +kernel
theorem dX12_key_55 : decode cX12_key 55 = .ok (.iinc 3 1, 3) := by decide +kernel
theorem dX12_key_58 : decode cX12_key 58 = .ok (.goto (-20), 3) := by decide +kernel
theorem dX12_key_61 : decode cX12_key 61 = .ok (.aload_n 0, 1) := by decide +kernel
theorem dX12_key_62 : decode cX12_key 62 = .ok (.invokevirtual 83, 3) := by decide +kernel
theorem dX12_key_65 : decode cX12_key 65 = .ok (.ireturn, 1) := by decide +kernel
theorem dX12_refusal_0 : decode cX12_refusal 0 = .ok (.aload_n 0, 1) := by decide +kernel
theorem dX12_refusal_1 : decode cX12_refusal 1 = .ok (.getfield 36, 3) := by decide +kernel
theorem dX12_refusal_4 : decode cX12_refusal 4 = .ok (.iload_n 1, 1) := by decide +kernel
theorem dX12_refusal_5 : decode cX12_refusal 5 = .ok (.aaload, 1) := by decide +kernel
theorem dX12_refusal_6 : decode cX12_refusal 6 = .ok (.astore_n 3, 1) := by decide +kernel
theorem dX12_refusal_7 : decode cX12_refusal 7 = .ok (.aload_n 3, 1) := by decide +kernel
theorem dX12_refusal_8 : decode cX12_refusal 8 = .ok (.getfield 77, 3) := by decide +kernel
theorem dX12_refusal_11 : decode cX12_refusal 11 = .ok (.ifCond .eq 5, 3) := by decide +kernel
theorem dX12_refusal_14 : decode cX12_refusal 14 = .ok (.iconst 1, 1) := by decide +kernel
theorem dX12_refusal_15 : decode cX12_refusal 15 = .ok (.ireturn, 1) := by decide +kernel
theorem dX12_refusal_16 : decode cX12_refusal 16 = .ok (.aload_n 3, 1) := by decide +kernel
theorem dX12_refusal_17 : decode cX12_refusal 17 = .ok (.getfield 73, 3) := by decide +kernel
theorem dX12_refusal_20 : decode cX12_refusal 20 = .ok (.ifCond .eq 7, 3) := by decide +kernel
theorem dX12_refusal_23 : decode cX12_refusal 23 = .ok (.iload_n 2, 1) := by decide +kernel
theorem dX12_refusal_24 : decode cX12_refusal 24 = .ok (.ifCond .eq 15, 3) := by decide +kernel
theorem dX12_refusal_27 : decode cX12_refusal 27 = .ok (.aload_n 3, 1) := by decide +kernel
theorem dX12_refusal_28 : decode cX12_refusal 28 = .ok (.getfield 73, 3) := by decide +kernel
theorem dX12_refusal_31 : decode cX12_refusal 31 = .ok (.ifCond .ne 10, 3) := by decide +kernel
theorem dX12_refusal_34 : decode cX12_refusal 34 = .ok (.iload_n 2, 1) := by decide +kernel
theorem dX12_refusal_35 : decode cX12_refusal 35 = .ok (.iconst 1, 1) := by decide +kernel
theorem dX12_refusal_36 : decode cX12_refusal 36 = .ok (.if_icmp .ne 5, 3) := by decide +kernel
theorem dX12_refusal_39 : decode cX12_refusal 39 = .ok (.iconst 2, 1) := by decide +kernel
theorem dX12_refusal_40 : decode cX12_refusal 40 = .ok (.ireturn, 1) := by decide +kernel
theorem dX12_refusal_41 : decode cX12_refusal 41 = .ok (.iload_n 2, 1) := by decide +kernel
theorem dX12_refusal_42 : decode cX12_refusal 42 = .ok (.ifCond .ne 14, 3) := by decide +kernel
theorem dX12_refusal_45 : decode cX12_refusal 45 = .ok (.aload_n 3, 1) := by decide +kernel
theorem dX12_refusal_46 : decode cX12_refusal 46 = .ok (.getfield 67, 3) := by decide +kernel
theorem dX12_refusal_49 : decode cX12_refusal 49 = .ok (.ifCond .ne 7, 3) := by decide +kernel
theorem dX12_refusal_52 : decode cX12_refusal 52 = .ok (.iconst 3, 1) := by decide +kernel
theorem dX12_refusal_53 : decode cX12_refusal 53 = .ok (.goto 4, 3) := by decide +kernel
theorem dX12_refusal_56 : decode cX12_refusal 56 = .ok (.iconst 0, 1) := by decide +kernel
theorem dX12_refusal_57 : decode cX12_refusal 57 = .ok (.ireturn, 1) := by decide +kernel
theorem dX12_pass_0 : decode cX12_pass 0 = .ok (.aload_n 1, 1) := by decide +kernel
theorem dX12_pass_1 : decode cX12_pass 1 = .ok (.iload_n 2, 1) := by decide +kernel
theorem dX12_pass_2 : decode cX12_pass 2 = .ok (.invokevirtual 94, 3) := by decide +kernel
theorem dX12_pass_5 : decode cX12_pass 5 = .ok (.iconst 0, 1) := by decide +kernel
theorem dX12_pass_6 : decode cX12_pass 6 = .ok (.invokevirtual 98, 3) := by decide +kernel
theorem dX12_pass_9 : decode cX12_pass 9 = .ok (.istore 4, 2) := by decide +kernel
theorem dX12_pass_11 : decode cX12_pass 11 = .ok (.iload_n 2, 1) := by decide +kernel
theorem dX12_pass_12 : decode cX12_pass 12 = .ok (.ifCond .ne 26, 3) := by decide +kernel
theorem dX12_pass_15 : decode cX12_pass 15 = .ok (.aload_n 0, 1) := by decide +kernel
theorem dX12_pass_16 : decode cX12_pass 16 = .ok (.dup, 1) := by decide +kernel
theorem dX12_pass_17 : decode cX12_pass 17 = .ok (.getfield 44, 3) := by decide +kernel
theorem dX12_pass_20 : decode cX12_pass 20 = .ok (.iconst 1, 1) := by decide +kernel
theorem dX12_pass_21 : decode cX12_pass 21 = .ok (.iadd, 1) := by decide +kernel
theorem dX12_pass_22 : decode cX12_pass 22 = .ok (.putfield 44, 3) := by decide +kernel
theorem dX12_pass_25 : decode cX12_pass 25 = .ok (.aload_n 0, 1) := by decide +kernel
theorem dX12_pass_26 : decode cX12_pass 26 = .ok (.dup, 1) := by decide +kernel
theorem dX12_pass_27 : decode cX12_pass 27 = .ok (.getfield 19, 3) := by decide +kernel
theorem dX12_pass_30 : decode cX12_pass 30 = .ok (.iconst 1, 1) := by decide +kernel
theorem dX12_pass_31 : decode cX12_pass 31 = .ok (.iadd, 1) := by decide +kernel
theorem dX12_pass_32 : decode cX12_pass 32 = .ok (.putfield 19, 3) := by decide +kernel
theorem dX12_pass_35 : decode cX12_pass 35 = .ok (.goto 23, 3) := by decide +kernel
theorem dX12_pass_38 : decode cX12_pass 38 = .ok (.aload_n 0, 1) := by decide +kernel
theorem dX12_pass_39 : decode cX12_pass 39 = .ok (.dup, 1) := by decide +kernel
theorem dX12_pass_40 : decode cX12_pass 40 = .ok (.getfield 47, 3) := by decide +kernel
theorem dX12_pass_43 : decode cX12_pass 43 = .ok (.iconst 1, 1) := by decide +kernel
theorem dX12_pass_44 : decode cX12_pass 44 = .ok (.iadd, 1) := by decide +kernel
theorem dX12_pass_45 : decode cX12_pass 45 = .ok (.putfield 47, 3) := by decide +kernel
theorem dX12_pass_48 : decode cX12_pass 48 = .ok (.aload_n 0, 1) := by decide +kernel
theorem dX12_pass_49 : decode cX12_pass 49 = .ok (.dup, 1) := by decide +kernel
theorem dX12_pass_50 : decode cX12_pass 50 = .ok (.getfield 19, 3) := by decide +kernel
theorem dX12_pass_53 : decode cX12_pass 53 = .ok (.iconst 1, 1) := by decide +kernel
theorem dX12_pass_54 : decode cX12_pass 54 = .ok (.isub, 1) := by decide +kernel
theorem dX12_pass_55 : decode cX12_pass 55 = .ok (.putfield 19, 3) := by decide +kernel
theorem dX12_pass_58 : decode cX12_pass 58 = .ok (.iload 4, 2) := by decide +kernel
theorem dX12_pass_60 : decode cX12_pass 60 = .ok (.ifCond .ge 4, 3) := by decide +kernel
theorem dX12_pass_63 : decode cX12_pass 63 = .ok (.return_, 1) := by decide +kernel
theorem dX12_pass_64 : decode cX12_pass 64 = .ok (.aload_n 0, 1) := by decide +kernel
theorem dX12_pass_65 : decode cX12_pass 65 = .ok (.getfield 36, 3) := by decide +kernel
theorem dX12_pass_68 : decode cX12_pass 68 = .ok (.iload 4, 2) := by decide +kernel
theorem dX12_pass_70 : decode cX12_pass 70 = .ok (.aaload, 1) := by decide +kernel
theorem dX12_pass_71 : decode cX12_pass 71 = .ok (.iload_n 2, 1) := by decide +kernel
theorem dX12_pass_72 : decode cX12_pass 72 = .ok (.ifCond .ne 7, 3) := by decide +kernel
theorem dX12_pass_75 : decode cX12_pass 75 = .ok (.iconst 1, 1) := by decide +kernel
theorem dX12_pass_76 : decode cX12_pass 76 = .ok (.goto 4, 3) := by decide +kernel
theorem dX12_pass_79 : decode cX12_pass 79 = .ok (.iconst 0, 1) := by decide +kernel
theorem dX12_pass_80 : decode cX12_pass 80 = .ok (.putfield 73, 3) := by decide +kernel
theorem dX12_pass_83 : decode cX12_pass 83 = .ok (.aload_n 0, 1) := by decide +kernel
theorem dX12_pass_84 : decode cX12_pass 84 = .ok (.getfield 36, 3) := by decide +kernel
theorem dX12_pass_87 : decode cX12_pass 87 = .ok (.iload 4, 2) := by decide +kernel
theorem dX12_pass_89 : decode cX12_pass 89 = .ok (.aaload, 1) := by decide +kernel
theorem dX12_pass_90 : decode cX12_pass 90 = .ok (.dup, 1) := by decide +kernel
theorem dX12_pass_91 : decode cX12_pass 91 = .ok (.getfield 80, 3) := by decide +kernel
theorem dX12_pass_94 : decode cX12_pass 94 = .ok (.iconst 1, 1) := by decide +kernel
theorem dX12_pass_95 : decode cX12_pass 95 = .ok (.iadd, 1) := by decide +kernel
theorem dX12_pass_96 : decode cX12_pass 96 = .ok (.putfield 80, 3) := by decide +kernel
theorem dX12_pass_99 : decode cX12_pass 99 = .ok (.iload_n 3, 1) := by decide +kernel
theorem dX12_pass_100 : decode cX12_pass 100 = .ok (.ifCond .eq 23, 3) := by decide +kernel
theorem dX12_pass_103 : decode cX12_pass 103 = .ok (.iload_n 2, 1) := by decide +kernel
theorem dX12_pass_104 : decode cX12_pass 104 = .ok (.ifCond .ne 19, 3) := by decide +kernel
theorem dX12_pass_107 : decode cX12_pass 107 = .ok (.aload_n 0, 1) := by decide +kernel
theorem dX12_pass_108 : decode cX12_pass 108 = .ok (.getfield 36, 3) := by decide +kernel
theorem dX12_pass_111 : decode cX12_pass 111 = .ok (.iload 4, 2) := by decide +kernel
theorem dX12_pass_113 : decode cX12_pass 113 = .ok (.aaload, 1) := by decide +kernel
theorem dX12_pass_114 : decode cX12_pass 114 = .ok (.dup, 1) := by decide +kernel
theorem dX12_pass_115 : decode cX12_pass 115 = .ok (.getfield 67, 3) := by decide +kernel
theorem dX12_pass_118 : decode cX12_pass 118 = .ok (.iconst 1, 1) := by decide +kernel
theorem dX12_pass_119 : decode cX12_pass 119 = .ok (.isub, 1) := by decide +kernel
theorem dX12_pass_120 : decode cX12_pass 120 = .ok (.putfield 67, 3) := by decide +kernel
theorem dX12_pass_123 : decode cX12_pass 123 = .ok (.return_, 1) := by decide +kernel
theorem dX12_serve_0 : decode cX12_serve 0 = .ok (.aload_n 0, 1) := by decide +kernel
theorem dX12_serve_1 : decode cX12_serve 1 = .ok (.invokevirtual 87, 3) := by decide +kernel
theorem dX12_serve_4 : decode cX12_serve 4 = .ok (.ifCond .eq 47, 3) := by decide +kernel
theorem dX12_serve_7 : decode cX12_serve 7 = .ok (.iconst 0, 1) := by decide +kernel
theorem dX12_serve_8 : decode cX12_serve 8 = .ok (.istore_n 2, 1) := by decide +kernel
theorem dX12_serve_9 : decode cX12_serve 9 = .ok (.iload_n 2, 1) := by decide +kernel
theorem dX12_serve_10 : decode cX12_serve 10 = .ok (.aload_n 0, 1) := by decide +kernel
theorem dX12_serve_11 : decode cX12_serve 11 = .ok (.getfield 13, 3) := by decide +kernel
theorem dX12_serve_14 : decode cX12_serve 14 = .ok (.if_icmp .ge 36, 3) := by decide +kernel
theorem dX12_serve_17 : decode cX12_serve 17 = .ok (.aload_n 1, 1) := by decide +kernel
theorem dX12_serve_18 : decode cX12_serve 18 = .ok (.getfield 104, 3) := by decide +kernel
theorem dX12_serve_21 : decode cX12_serve 21 = .ok (.getfield 108, 3) := by decide +kernel
theorem dX12_serve_24 : decode cX12_serve 24 = .ok (.ifCond .le 26, 3) := by decide +kernel
theorem dX12_serve_27 : decode cX12_serve 27 = .ok (.aload_n 0, 1) := by decide +kernel
theorem dX12_serve_28 : decode cX12_serve 28 = .ok (.aload_n 1, 1) := by decide +kernel
theorem dX12_serve_29 : decode cX12_serve 29 = .ok (.iconst 1, 1) := by decide +kernel
theorem dX12_serve_30 : decode cX12_serve 30 = .ok (.iconst 0, 1) := by decide +kernel
theorem dX12_serve_31 : decode cX12_serve 31 = .ok (.invokevirtual 109, 3) := by decide +kernel
theorem dX12_serve_34 : decode cX12_serve 34 = .ok (.aload_n 0, 1) := by decide +kernel
theorem dX12_serve_35 : decode cX12_serve 35 = .ok (.dup, 1) := by decide +kernel
theorem dX12_serve_36 : decode cX12_serve 36 = .ok (.getfield 59, 3) := by decide +kernel
theorem dX12_serve_39 : decode cX12_serve 39 = .ok (.iconst 1, 1) := by decide +kernel
theorem dX12_serve_40 : decode cX12_serve 40 = .ok (.iadd, 1) := by decide +kernel
theorem dX12_serve_41 : decode cX12_serve 41 = .ok (.putfield 59, 3) := by decide +kernel
theorem dX12_serve_44 : decode cX12_serve 44 = .ok (.iinc 2 1, 3) := by decide +kernel
theorem dX12_serve_47 : decode cX12_serve 47 = .ok (.goto (-38), 3) := by decide +kernel
theorem dX12_serve_50 : decode cX12_serve 50 = .ok (.return_, 1) := by decide +kernel
theorem dX12_serve_51 : decode cX12_serve 51 = .ok (.aload_n 1, 1) := by decide +kernel
theorem dX12_serve_52 : decode cX12_serve 52 = .ok (.getfield 113, 3) := by decide +kernel
theorem dX12_serve_55 : decode cX12_serve 55 = .ok (.ifCond .le 106, 3) := by decide +kernel
theorem dX12_serve_58 : decode cX12_serve 58 = .ok (.aload_n 1, 1) := by decide +kernel
theorem dX12_serve_59 : decode cX12_serve 59 = .ok (.aload_n 1, 1) := by decide +kernel
theorem dX12_serve_60 : decode cX12_serve 60 = .ok (.getfield 116, 3) := by decide +kernel
theorem dX12_serve_63 : decode cX12_serve 63 = .ok (.invokevirtual 94, 3) := by decide +kernel
theorem dX12_serve_66 : decode cX12_serve 66 = .ok (.astore_n 2, 1) := by decide +kernel
theorem dX12_serve_67 : decode cX12_serve 67 = .ok (.aload_n 1, 1) := by decide +kernel
theorem dX12_serve_68 : decode cX12_serve 68 = .ok (.getfield 119, 3) := by decide +kernel
theorem dX12_serve_71 : decode cX12_serve 71 = .ok (.ifCond .eq 21, 3) := by decide +kernel
theorem dX12_serve_74 : decode cX12_serve 74 = .ok (.aload_n 0, 1) := by decide +kernel
theorem dX12_serve_75 : decode cX12_serve 75 = .ok (.aload_n 1, 1) := by decide +kernel
theorem dX12_serve_76 : decode cX12_serve 76 = .ok (.aload_n 1, 1) := by decide +kernel
theorem dX12_serve_77 : decode cX12_serve 77 = .ok (.getfield 116, 3) := by decide +kernel
theorem dX12_serve_80 : decode cX12_serve 80 = .ok (.iconst 1, 1) := by decide +kernel
theorem dX12_serve_81 : decode cX12_serve 81 = .ok (.invokevirtual 109, 3) := by decide +kernel
theorem dX12_serve_84 : decode cX12_serve 84 = .ok (.aload_n 1, 1) := by decide +kernel
theorem dX12_serve_85 : decode cX12_serve 85 = .ok (.iconst 0, 1) := by decide +kernel
theorem dX12_serve_86 : decode cX12_serve 86 = .ok (.putfield 119, 3) := by decide +kernel
theorem dX12_serve_89 : decode cX12_serve 89 = .ok (.goto 49, 3) := by decide +kernel
theorem dX12_serve_92 : decode cX12_serve 92 = .ok (.aload_n 2, 1) := by decide +kernel
theorem dX12_serve_93 : decode cX12_serve 93 = .ok (.getfield 108, 3) := by decide +kernel
theorem dX12_serve_96 : decode cX12_serve 96 = .ok (.ifCond .le 42, 3) := by decide +kernel
theorem dX12_serve_99 : decode cX12_serve 99 = .ok (.aload_n 2, 1) := by decide +kernel
theorem dX12_serve_100 : decode cX12_serve 100 = .ok (.getfield 122, 3) := by decide +kernel
theorem dX12_serve_103 : decode cX12_serve 103 = .ok (.iconst 0, 1) := by decide +kernel
theorem dX12_serve_104 : decode cX12_serve 104 = .ok (.iaload, 1) := by decide +kernel
theorem dX12_serve_105 : decode cX12_serve 105 = .ok (.ifCond .ge 33, 3) := by decide +kernel
theorem dX12_serve_108 : decode cX12_serve 108 = .ok (.aload_n 0, 1) := by decide +kernel
theorem dX12_serve_109 : decode cX12_serve 109 = .ok (.aload_n 1, 1) := by decide +kernel
theorem dX12_serve_110 : decode cX12_serve 110 = .ok (.aload_n 1, 1) := by decide +kernel
theorem dX12_serve_111 : decode cX12_serve 111 = .ok (.getfield 116, 3) := by decide +kernel
theorem dX12_serve_114 : decode cX12_serve 114 = .ok (.iconst 1, 1) := by decide +kernel
theorem dX12_serve_115 : decode cX12_serve 115 = .ok (.invokevirtual 109, 3) := by decide +kernel
theorem dX12_serve_118 : decode cX12_serve 118 = .ok (.aload_n 0, 1) := by decide +kernel
theorem dX12_serve_119 : decode cX12_serve 119 = .ok (.dup, 1) := by decide +kernel
theorem dX12_serve_120 : decode cX12_serve 120 = .ok (.getfield 50, 3) := by decide +kernel
theorem dX12_serve_123 : decode cX12_serve 123 = .ok (.iconst 1, 1) := by decide +kernel
theorem dX12_serve_124 : decode cX12_serve 124 = .ok (.iadd, 1) := by decide +kernel
theorem dX12_serve_125 : decode cX12_serve 125 = .ok (.putfield 50, 3) := by decide +kernel
theorem dX12_serve_128 : decode cX12_serve 128 = .ok (.aload_n 1, 1) := by decide +kernel
theorem dX12_serve_129 : decode cX12_serve 129 = .ok (.dup, 1) := by decide +kernel
theorem dX12_serve_130 : decode cX12_serve 130 = .ok (.getfield 125, 3) := by decide +kernel
theorem dX12_serve_133 : decode cX12_serve 133 = .ok (.iconst 1, 1) := by decide +kernel
theorem dX12_serve_134 : decode cX12_serve 134 = .ok (.iadd, 1) := by decide +kernel
theorem dX12_serve_135 : decode cX12_serve 135 = .ok (.putfield 125, 3) := by decide +kernel
theorem dX12_serve_138 : decode cX12_serve 138 = .ok (.aload_n 1, 1) := by decide +kernel
theorem dX12_serve_139 : decode cX12_serve 139 = .ok (.dup, 1) := by decide +kernel
theorem dX12_serve_140 : decode cX12_serve 140 = .ok (.getfield 113, 3) := by decide +kernel
theorem dX12_serve_143 : decode cX12_serve 143 = .ok (.iconst 1, 1) := by decide +kernel
theorem dX12_serve_144 : decode cX12_serve 144 = .ok (.isub, 1) := by decide +kernel
theorem dX12_serve_145 : decode cX12_serve 145 = .ok (.putfield 113, 3) := by decide +kernel
theorem dX12_serve_148 : decode cX12_serve 148 = .ok (.aload_n 1, 1) := by decide +kernel
theorem dX12_serve_149 : decode cX12_serve 149 = .ok (.getfield 113, 3) := by decide +kernel
theorem dX12_serve_152 : decode cX12_serve 152 = .ok (.ifCond .ne 8, 3) := by decide +kernel
theorem dX12_serve_155 : decode cX12_serve 155 = .ok (.aload_n 1, 1) := by decide +kernel
theorem dX12_serve_156 : decode cX12_serve 156 = .ok (.iconst (-1), 1) := by decide +kernel
theorem dX12_serve_157 : decode cX12_serve 157 = .ok (.putfield 116, 3) := by decide +kernel
theorem dX12_serve_160 : decode cX12_serve 160 = .ok (.return_, 1) := by decide +kernel
theorem dX12_serve_161 : decode cX12_serve 161 = .ok (.aload_n 1, 1) := by decide +kernel
theorem dX12_serve_162 : decode cX12_serve 162 = .ok (.invokevirtual 128, 3) := by decide +kernel
theorem dX12_serve_165 : decode cX12_serve 165 = .ok (.istore_n 2, 1) := by decide +kernel
theorem dX12_serve_166 : decode cX12_serve 166 = .ok (.aload_n 1, 1) := by decide +kernel
theorem dX12_serve_167 : decode cX12_serve 167 = .ok (.iload_n 2, 1) := by decide +kernel
theorem dX12_serve_168 : decode cX12_serve 168 = .ok (.invokevirtual 94, 3) := by decide +kernel
theorem dX12_serve_171 : decode cX12_serve 171 = .ok (.astore_n 3, 1) := by decide +kernel
theorem dX12_serve_172 : decode cX12_serve 172 = .ok (.aload_n 3, 1) := by decide +kernel
theorem dX12_serve_173 : decode cX12_serve 173 = .ok (.invokevirtual 131, 3) := by decide +kernel
theorem dX12_serve_176 : decode cX12_serve 176 = .ok (.istore 4, 2) := by decide +kernel
theorem dX12_serve_178 : decode cX12_serve 178 = .ok (.iload 4, 2) := by decide +kernel
theorem dX12_serve_180 : decode cX12_serve 180 = .ok (.aload_n 3, 1) := by decide +kernel
theorem dX12_serve_181 : decode cX12_serve 181 = .ok (.getfield 108, 3) := by decide +kernel
theorem dX12_serve_184 : decode cX12_serve 184 = .ok (.if_icmp .ne 4, 3) := by decide +kernel
theorem dX12_serve_187 : decode cX12_serve 187 = .ok (.return_, 1) := by decide +kernel
theorem dX12_serve_188 : decode cX12_serve 188 = .ok (.aload_n 3, 1) := by decide +kernel
theorem dX12_serve_189 : decode cX12_serve 189 = .ok (.iload 4, 2) := by decide +kernel
theorem dX12_serve_191 : decode cX12_serve 191 = .ok (.invokevirtual 98, 3) := by decide +kernel
theorem dX12_serve_194 : decode cX12_serve 194 = .ok (.istore 5, 2) := by decide +kernel
theorem dX12_serve_196 : decode cX12_serve 196 = .ok (.aload_n 0, 1) := by decide +kernel
theorem dX12_serve_197 : decode cX12_serve 197 = .ok (.iload 5, 2) := by decide +kernel
theorem dX12_serve_199 : decode cX12_serve 199 = .ok (.iload_n 2, 1) := by decide +kernel
theorem dX12_serve_200 : decode cX12_serve 200 = .ok (.invokevirtual 134, 3) := by decide +kernel
theorem dX12_serve_203 : decode cX12_serve 203 = .ok (.ifCond .le 29, 3) := by decide +kernel
theorem dX12_serve_206 : decode cX12_serve 206 = .ok (.aload_n 0, 1) := by decide +kernel
theorem dX12_serve_207 : decode cX12_serve 207 = .ok (.dup, 1) := by decide +kernel
theorem dX12_serve_208 : decode cX12_serve 208 = .ok (.getfield 53, 3) := by decide +kernel
theorem dX12_serve_211 : decode cX12_serve 211 = .ok (.iconst 1, 1) := by decide +kernel
theorem dX12_serve_212 : decode cX12_serve 212 = .ok (.iadd, 1) := by decide +kernel
theorem dX12_serve_213 : decode cX12_serve 213 = .ok (.putfield 53, 3) := by decide +kernel
theorem dX12_serve_216 : decode cX12_serve 216 = .ok (.iload_n 2, 1) := by decide +kernel
theorem dX12_serve_217 : decode cX12_serve 217 = .ok (.iconst 1, 1) := by decide +kernel
theorem dX12_serve_218 : decode cX12_serve 218 = .ok (.if_icmp .ne 13, 3) := by decide +kernel
theorem dX12_serve_221 : decode cX12_serve 221 = .ok (.aload_n 0, 1) := by decide +kernel
theorem dX12_serve_222 : decode cX12_serve 222 = .ok (.dup, 1) := by decide +kernel
theorem dX12_serve_223 : decode cX12_serve 223 = .ok (.getfield 19, 3) := by decide +kernel
theorem dX12_serve_226 : decode cX12_serve 226 = .ok (.iconst 1, 1) := by decide +kernel
theorem dX12_serve_227 : decode cX12_serve 227 = .ok (.isub, 1) := by decide +kernel
theorem dX12_serve_228 : decode cX12_serve 228 = .ok (.putfield 19, 3) := by decide +kernel
theorem dX12_serve_231 : decode cX12_serve 231 = .ok (.return_, 1) := by decide +kernel
theorem dX12_serve_232 : decode cX12_serve 232 = .ok (.aload_n 3, 1) := by decide +kernel
theorem dX12_serve_233 : decode cX12_serve 233 = .ok (.iload 5, 2) := by decide +kernel
theorem dX12_serve_235 : decode cX12_serve 235 = .ok (.invokevirtual 138, 3) := by decide +kernel
theorem dX12_serve_238 : decode cX12_serve 238 = .ok (.aload_n 1, 1) := by decide +kernel
theorem dX12_serve_239 : decode cX12_serve 239 = .ok (.aload_n 0, 1) := by decide +kernel
theorem dX12_serve_240 : decode cX12_serve 240 = .ok (.getfield 7, 3) := by decide +kernel
theorem dX12_serve_243 : decode cX12_serve 243 = .ok (.putfield 113, 3) := by decide +kernel
theorem dX12_serve_246 : decode cX12_serve 246 = .ok (.aload_n 1, 1) := by decide +kernel
theorem dX12_serve_247 : decode cX12_serve 247 = .ok (.iload_n 2, 1) := by decide +kernel
theorem dX12_serve_248 : decode cX12_serve 248 = .ok (.putfield 116, 3) := by decide +kernel
theorem dX12_serve_251 : decode cX12_serve 251 = .ok (.aload_n 1, 1) := by decide +kernel
theorem dX12_serve_252 : decode cX12_serve 252 = .ok (.iload_n 2, 1) := by decide +kernel
theorem dX12_serve_253 : decode cX12_serve 253 = .ok (.putfield 141, 3) := by decide +kernel
theorem dX12_serve_256 : decode cX12_serve 256 = .ok (.aload_n 1, 1) := by decide +kernel
theorem dX12_serve_257 : decode cX12_serve 257 = .ok (.iconst 1, 1) := by decide +kernel
theorem dX12_serve_258 : decode cX12_serve 258 = .ok (.putfield 119, 3) := by decide +kernel
theorem dX12_serve_261 : decode cX12_serve 261 = .ok (.aload_n 1, 1) := by decide +kernel
theorem dX12_serve_262 : decode cX12_serve 262 = .ok (.dup, 1) := by decide +kernel
theorem dX12_serve_263 : decode cX12_serve 263 = .ok (.getfield 144, 3) := by decide +kernel
theorem dX12_serve_266 : decode cX12_serve 266 = .ok (.iconst 1, 1) := by decide +kernel
theorem dX12_serve_267 : decode cX12_serve 267 = .ok (.iadd, 1) := by decide +kernel
theorem dX12_serve_268 : decode cX12_serve 268 = .ok (.putfield 144, 3) := by decide +kernel
theorem dX12_serve_271 : decode cX12_serve 271 = .ok (.return_, 1) := by decide +kernel
theorem dX12_tick_0 : decode cX12_tick 0 = .ok (.aload_n 0, 1) := by decide +kernel
theorem dX12_tick_1 : decode cX12_tick 1 = .ok (.getfield 44, 3) := by decide +kernel
theorem dX12_tick_4 : decode cX12_tick 4 = .ok (.aload_n 0, 1) := by decide +kernel
theorem dX12_tick_5 : decode cX12_tick 5 = .ok (.getfield 47, 3) := by decide +kernel
theorem dX12_tick_8 : decode cX12_tick 8 = .ok (.iadd, 1) := by decide +kernel
theorem dX12_tick_9 : decode cX12_tick 9 = .ok (.istore_n 2, 1) := by decide +kernel
theorem dX12_tick_10 : decode cX12_tick 10 = .ok (.iconst 0, 1) := by decide +kernel
theorem dX12_tick_11 : decode cX12_tick 11 = .ok (.istore_n 3, 1) := by decide +kernel
theorem dX12_tick_12 : decode cX12_tick 12 = .ok (.iload_n 3, 1) := by decide +kernel
theorem dX12_tick_13 : decode cX12_tick 13 = .ok (.iload_n 1, 1) := by decide +kernel
theorem dX12_tick_14 : decode cX12_tick 14 = .ok (.if_icmp .ge 48, 3) := by decide +kernel
theorem dX12_tick_17 : decode cX12_tick 17 = .ok (.iconst 0, 1) := by decide +kernel
theorem dX12_tick_18 : decode cX12_tick 18 = .ok (.istore 4, 2) := by decide +kernel
theorem dX12_tick_20 : decode cX12_tick 20 = .ok (.iload 4, 2) := by decide +kernel
theorem dX12_tick_22 : decode cX12_tick 22 = .ok (.aload_n 0, 1) := by decide +kernel
theorem dX12_tick_23 : decode cX12_tick 23 = .ok (.getfield 22, 3) := by decide +kernel
theorem dX12_tick_26 : decode cX12_tick 26 = .ok (.if_icmp .ge 20, 3) := by decide +kernel
theorem dX12_tick_29 : decode cX12_tick 29 = .ok (.aload_n 0, 1) := by decide +kernel
theorem dX12_tick_30 : decode cX12_tick 30 = .ok (.aload_n 0, 1) := by decide +kernel
theorem dX12_tick_31 : decode cX12_tick 31 = .ok (.getfield 27, 3) := by decide +kernel
theorem dX12_tick_34 : decode cX12_tick 34 = .ok (.iload 4, 2) := by decide +kernel
theorem dX12_tick_36 : decode cX12_tick 36 = .ok (.aaload, 1) := by decide +kernel
theorem dX12_tick_37 : decode cX12_tick 37 = .ok (.invokevirtual 147, 3) := by decide +kernel
theorem dX12_tick_40 : decode cX12_tick 40 = .ok (.iinc 4 1, 3) := by decide +kernel
theorem dX12_tick_43 : decode cX12_tick 43 = .ok (.goto (-23), 3) := by decide +kernel
theorem dX12_tick_46 : decode cX12_tick 46 = .ok (.aload_n 0, 1) := by decide +kernel
theorem dX12_tick_47 : decode cX12_tick 47 = .ok (.dup, 1) := by decide +kernel
theorem dX12_tick_48 : decode cX12_tick 48 = .ok (.getfield 16, 3) := by decide +kernel
theorem dX12_tick_51 : decode cX12_tick 51 = .ok (.iconst 1, 1) := by decide +kernel
theorem dX12_tick_52 : decode cX12_tick 52 = .ok (.iadd, 1) := by decide +kernel
theorem dX12_tick_53 : decode cX12_tick 53 = .ok (.putfield 16, 3) := by decide +kernel
theorem dX12_tick_56 : decode cX12_tick 56 = .ok (.iinc 3 1, 3) := by decide +kernel
theorem dX12_tick_59 : decode cX12_tick 59 = .ok (.goto (-47), 3) := by decide +kernel
theorem dX12_tick_62 : decode cX12_tick 62 = .ok (.aload_n 0, 1) := by decide +kernel
theorem dX12_tick_63 : decode cX12_tick 63 = .ok (.getfield 44, 3) := by decide +kernel
theorem dX12_tick_66 : decode cX12_tick 66 = .ok (.aload_n 0, 1) := by decide +kernel
theorem dX12_tick_67 : decode cX12_tick 67 = .ok (.getfield 47, 3) := by decide +kernel
theorem dX12_tick_70 : decode cX12_tick 70 = .ok (.iadd, 1) := by decide +kernel
theorem dX12_tick_71 : decode cX12_tick 71 = .ok (.iload_n 2, 1) := by decide +kernel
theorem dX12_tick_72 : decode cX12_tick 72 = .ok (.isub, 1) := by decide +kernel
theorem dX12_tick_73 : decode cX12_tick 73 = .ok (.ireturn, 1) := by decide +kernel
theorem dX12_waiting_0 : decode cX12_waiting 0 = .ok (.iconst 0, 1) := by decide +kernel
theorem dX12_waiting_1 : decode cX12_waiting 1 = .ok (.istore_n 2, 1) := by decide +kernel
theorem dX12_waiting_2 : decode cX12_waiting 2 = .ok (.iconst 0, 1) := by decide +kernel
theorem dX12_waiting_3 : decode cX12_waiting 3 = .ok (.istore_n 3, 1) := by decide +kernel
theorem dX12_waiting_4 : decode cX12_waiting 4 = .ok (.iload_n 3, 1) := by decide +kernel
theorem dX12_waiting_5 : decode cX12_waiting 5 = .ok (.aload_n 0, 1) := by decide +kernel
theorem dX12_waiting_6 : decode cX12_waiting 6 = .ok (.getfield 22, 3) := by decide +kernel
theorem dX12_waiting_9 : decode cX12_waiting 9 = .ok (.if_icmp .ge 25, 3) := by decide +kernel
theorem dX12_waiting_12 : decode cX12_waiting 12 = .ok (.iload_n 2, 1) := by decide +kernel
theorem dX12_waiting_13 : decode cX12_waiting 13 = .ok (.aload_n 0, 1) := by decide +kernel
theorem dX12_waiting_14 : decode cX12_waiting 14 = .ok (.getfield 27, 3) := by decide +kernel
theorem dX12_waiting_17 : decode cX12_waiting 17 = .ok (.iload_n 3, 1) := by decide +kernel
theorem dX12_waiting_18 : decode cX12_waiting 18 = .ok (.aaload, 1) := by decide +kernel
theorem dX12_waiting_19 : decode cX12_waiting 19 = .ok (.iload_n 1, 1) := by decide +kernel
theorem dX12_waiting_20 : decode cX12_waiting 20 = .ok (.invokevirtual 94, 3) := by decide +kernel
theorem dX12_waiting_23 : decode cX12_waiting 23 = .ok (.getfield 108, 3) := by decide +kernel
theorem dX12_waiting_26 : decode cX12_waiting 26 = .ok (.iadd, 1) := by decide +kernel
theorem dX12_waiting_27 : decode cX12_waiting 27 = .ok (.istore_n 2, 1) := by decide +kernel
theorem dX12_waiting_28 : decode cX12_waiting 28 = .ok (.iinc 3 1, 3) := by decide +kernel
theorem dX12_waiting_31 : decode cX12_waiting 31 = .ok (.goto (-27), 3) := by decide +kernel
theorem dX12_waiting_34 : decode cX12_waiting 34 = .ok (.iload_n 2, 1) := by decide +kernel
theorem dX12_waiting_35 : decode cX12_waiting 35 = .ok (.ireturn, 1) := by decide +kernel
theorem dX12_where_0 : decode cX12_where 0 = .ok (.iconst 0, 1) := by decide +kernel
theorem dX12_where_1 : decode cX12_where 1 = .ok (.istore_n 2, 1) := by decide +kernel
theorem dX12_where_2 : decode cX12_where 2 = .ok (.iload_n 2, 1) := by decide +kernel
theorem dX12_where_3 : decode cX12_where 3 = .ok (.aload_n 0, 1) := by decide +kernel
theorem dX12_where_4 : decode cX12_where 4 = .ok (.getfield 22, 3) := by decide +kernel
theorem dX12_where_7 : decode cX12_where 7 = .ok (.if_icmp .ge 68, 3) := by decide +kernel
theorem dX12_where_10 : decode cX12_where 10 = .ok (.iconst 0, 1) := by decide +kernel
theorem dX12_where_11 : decode cX12_where 11 = .ok (.istore_n 3, 1) := by decide +kernel
theorem dX12_where_12 : decode cX12_where 12 = .ok (.iload_n 3, 1) := by decide +kernel
theorem dX12_where_13 : decode cX12_where 13 = .ok (.iconst 2, 1) := by decide +kernel
theorem dX12_where_14 : decode cX12_where 14 = .ok (.if_icmp .ge 55, 3) := by decide +kernel
theorem dX12_where_17 : decode cX12_where 17 = .ok (.iload_n 1, 1) := by decide +kernel
theorem dX12_where_18 : decode cX12_where 18 = .ok (.ifCond .lt 45, 3) := by decide +kernel
theorem dX12_where_21 : decode cX12_where 21 = .ok (.aload_n 0, 1) := by decide +kernel
theorem dX12_where_22 : decode cX12_where 22 = .ok (.getfield 27, 3) := by decide +kernel
theorem dX12_where_25 : decode cX12_where 25 = .ok (.iload_n 2, 1) := by decide +kernel
theorem dX12_where_26 : decode cX12_where 26 = .ok (.aaload, 1) := by decide +kernel
theorem dX12_where_27 : decode cX12_where 27 = .ok (.iload_n 3, 1) := by decide +kernel
theorem dX12_where_28 : decode cX12_where 28 = .ok (.invokevirtual 94, 3) := by decide +kernel
theorem dX12_where_31 : decode cX12_where 31 = .ok (.iload_n 1, 1) := by decide +kernel
theorem dX12_where_32 : decode cX12_where 32 = .ok (.invokevirtual 151, 3) := by decide +kernel
theorem dX12_where_35 : decode cX12_where 35 = .ok (.ifCond .lt 28, 3) := by decide +kernel
theorem dX12_where_38 : decode cX12_where 38 = .ok (.bipush 100, 2) := by decide +kernel
theorem dX12_where_40 : decode cX12_where 40 = .ok (.iload_n 2, 1) := by decide +kernel
theorem dX12_where_41 : decode cX12_where 41 = .ok (.imul, 1) := by decide +kernel
theorem dX12_where_42 : decode cX12_where 42 = .ok (.bipush 50, 2) := by decide +kernel
theorem dX12_where_44 : decode cX12_where 44 = .ok (.iload_n 3, 1) := by decide +kernel
theorem dX12_where_45 : decode cX12_where 45 = .ok (.imul, 1) := by decide +kernel
theorem dX12_where_46 : decode cX12_where 46 = .ok (.iadd, 1) := by decide +kernel
theorem dX12_where_47 : decode cX12_where 47 = .ok (.aload_n 0, 1) := by decide +kernel
theorem dX12_where_48 : decode cX12_where 48 = .ok (.getfield 27, 3) := by decide +kernel
theorem dX12_where_51 : decode cX12_where 51 = .ok (.iload_n 2, 1) := by decide +kernel
theorem dX12_where_52 : decode cX12_where 52 = .ok (.aaload, 1) := by decide +kernel
theorem dX12_where_53 : decode cX12_where 53 = .ok (.iload_n 3, 1) := by decide +kernel
theorem dX12_where_54 : decode cX12_where 54 = .ok (.invokevirtual 94, 3) := by decide +kernel
theorem dX12_where_57 : decode cX12_where 57 = .ok (.iload_n 1, 1) := by decide +kernel
theorem dX12_where_58 : decode cX12_where 58 = .ok (.invokevirtual 151, 3) := by decide +kernel
theorem dX12_where_61 : decode cX12_where 61 = .ok (.iadd, 1) := by decide +kernel
theorem dX12_where_62 : decode cX12_where 62 = .ok (.ireturn, 1) := by decide +kernel
theorem dX12_where_63 : decode cX12_where 63 = .ok (.iinc 3 1, 3) := by decide +kernel
theorem dX12_where_66 : decode cX12_where 66 = .ok (.goto (-54), 3) := by decide +kernel
theorem dX12_where_69 : decode cX12_where 69 = .ok (.iinc 2 1, 3) := by decide +kernel
theorem dX12_where_72 : decode cX12_where 72 = .ok (.goto (-70), 3) := by decide +kernel
theorem dX12_where_75 : decode cX12_where 75 = .ok (.iconst (-1), 1) := by decide +kernel
theorem dX12_where_76 : decode cX12_where 76 = .ok (.ireturn, 1) := by decide +kernel
theorem dX12_whyNot_0 : decode cX12_whyNot 0 = .ok (.aload_n 0, 1) := by decide +kernel
theorem dX12_whyNot_1 : decode cX12_whyNot 1 = .ok (.getfield 27, 3) := by decide +kernel
theorem dX12_whyNot_4 : decode cX12_whyNot 4 = .ok (.iload_n 1, 1) := by decide +kernel
theorem dX12_whyNot_5 : decode cX12_whyNot 5 = .ok (.aaload, 1) := by decide +kernel
theorem dX12_whyNot_6 : decode cX12_whyNot 6 = .ok (.iload_n 2, 1) := by decide +kernel
theorem dX12_whyNot_7 : decode cX12_whyNot 7 = .ok (.invokevirtual 154, 3) := by decide +kernel
theorem dX12_whyNot_10 : decode cX12_whyNot 10 = .ok (.ifCond .ne 5, 3) := by decide +kernel
theorem dX12_whyNot_13 : decode cX12_whyNot 13 = .ok (.iconst 1, 1) := by decide +kernel
theorem dX12_whyNot_14 : decode cX12_whyNot 14 = .ok (.ireturn, 1) := by decide +kernel
theorem dX12_whyNot_15 : decode cX12_whyNot 15 = .ok (.aload_n 0, 1) := by decide +kernel
theorem dX12_whyNot_16 : decode cX12_whyNot 16 = .ok (.getfield 27, 3) := by decide +kernel
theorem dX12_whyNot_19 : decode cX12_whyNot 19 = .ok (.iload_n 1, 1) := by decide +kernel
theorem dX12_whyNot_20 : decode cX12_whyNot 20 = .ok (.aaload, 1) := by decide +kernel
theorem dX12_whyNot_21 : decode cX12_whyNot 21 = .ok (.iload_n 2, 1) := by decide +kernel
theorem dX12_whyNot_22 : decode cX12_whyNot 22 = .ok (.invokevirtual 94, 3) := by decide +kernel
theorem dX12_whyNot_25 : decode cX12_whyNot 25 = .ok (.getfield 108, 3) := by decide +kernel
theorem dX12_whyNot_28 : decode cX12_whyNot 28 = .ok (.bipush 10, 2) := by decide +kernel
theorem dX12_whyNot_30 : decode cX12_whyNot 30 = .ok (.if_icmp .ne 5, 3) := by decide +kernel
theorem dX12_whyNot_33 : decode cX12_whyNot 33 = .ok (.iconst 2, 1) := by decide +kernel
theorem dX12_whyNot_34 : decode cX12_whyNot 34 = .ok (.ireturn, 1) := by decide +kernel
theorem dX12_whyNot_35 : decode cX12_whyNot 35 = .ok (.aload_n 0, 1) := by decide +kernel
theorem dX12_whyNot_36 : decode cX12_whyNot 36 = .ok (.iload_n 3, 1) := by decide +kernel
theorem dX12_whyNot_37 : decode cX12_whyNot 37 = .ok (.invokevirtual 158, 3) := by decide +kernel
theorem dX12_whyNot_40 : decode cX12_whyNot 40 = .ok (.ifCond .lt 5, 3) := by decide +kernel
theorem dX12_whyNot_43 : decode cX12_whyNot 43 = .ok (.iconst 3, 1) := by decide +kernel
theorem dX12_whyNot_44 : decode cX12_whyNot 44 = .ok (.ireturn, 1) := by decide +kernel
theorem dX12_whyNot_45 : decode cX12_whyNot 45 = .ok (.iload_n 2, 1) := by decide +kernel
theorem dX12_whyNot_46 : decode cX12_whyNot 46 = .ok (.iconst 1, 1) := by decide +kernel
theorem dX12_whyNot_47 : decode cX12_whyNot 47 = .ok (.if_icmp .ne 19, 3) := by decide +kernel
theorem dX12_whyNot_50 : decode cX12_whyNot 50 = .ok (.aload_n 0, 1) := by decide +kernel
theorem dX12_whyNot_51 : decode cX12_whyNot 51 = .ok (.iconst 1, 1) := by decide +kernel
theorem dX12_whyNot_52 : decode cX12_whyNot 52 = .ok (.invokevirtual 161, 3) := by decide +kernel
theorem dX12_whyNot_55 : decode cX12_whyNot 55 = .ok (.aload_n 0, 1) := by decide +kernel
theorem dX12_whyNot_56 : decode cX12_whyNot 56 = .ok (.getfield 19, 3) := by decide +kernel
theorem dX12_whyNot_59 : decode cX12_whyNot 59 = .ok (.if_icmp .lt 7, 3) := by decide +kernel
theorem dX12_whyNot_62 : decode cX12_whyNot 62 = .ok (.iconst 4, 1) := by decide +kernel
theorem dX12_whyNot_63 : decode cX12_whyNot 63 = .ok (.goto 4, 3) := by decide +kernel
theorem dX12_whyNot_66 : decode cX12_whyNot 66 = .ok (.iconst 0, 1) := by decide +kernel
theorem dX12_whyNot_67 : decode cX12_whyNot 67 = .ok (.ireturn, 1) := by decide +kernel
theorem dX12_join_0 : decode cX12_join 0 = .ok (.aload_n 0, 1) := by decide +kernel
theorem dX12_join_1 : decode cX12_join 1 = .ok (.iload_n 1, 1) := by decide +kernel
theorem dX12_join_2 : decode cX12_join 2 = .ok (.iload_n 2, 1) := by decide +kernel
theorem dX12_join_3 : decode cX12_join 3 = .ok (.iload_n 3, 1) := by decide +kernel
theorem dX12_join_4 : decode cX12_join 4 = .ok (.invokevirtual 164, 3) := by decide +kernel
theorem dX12_join_7 : decode cX12_join 7 = .ok (.istore 4, 2) := by decide +kernel
theorem dX12_join_9 : decode cX12_join 9 = .ok (.iload 4, 2) := by decide +kernel
theorem dX12_join_11 : decode cX12_join 11 = .ok (.ifCond .le 17, 3) := by decide +kernel
theorem dX12_join_14 : decode cX12_join 14 = .ok (.aload_n 0, 1) := by decide +kernel
theorem dX12_join_15 : decode cX12_join 15 = .ok (.dup, 1) := by decide +kernel
theorem dX12_join_16 : decode cX12_join 16 = .ok (.getfield 56, 3) := by decide +kernel
theorem dX12_join_19 : decode cX12_join 19 = .ok (.iconst 1, 1) := by decide +kernel
theorem dX12_join_20 : decode cX12_join 20 = .ok (.iadd, 1) := by decide +kernel
theorem dX12_join_21 : decode cX12_join 21 = .ok (.putfield 56, 3) := by decide +kernel
theorem dX12_join_24 : decode cX12_join 24 = .ok (.iload 4, 2) := by decide +kernel
theorem dX12_join_26 : decode cX12_join 26 = .ok (.ineg, 1) := by decide +kernel
theorem dX12_join_27 : decode cX12_join 27 = .ok (.ireturn, 1) := by decide +kernel
theorem dX12_join_28 : decode cX12_join 28 = .ok (.aload_n 0, 1) := by decide +kernel
theorem dX12_join_29 : decode cX12_join 29 = .ok (.getfield 27, 3) := by decide +kernel
theorem dX12_join_32 : decode cX12_join 32 = .ok (.iload_n 1, 1) := by decide +kernel
theorem dX12_join_33 : decode cX12_join 33 = .ok (.aaload, 1) := by decide +kernel
theorem dX12_join_34 : decode cX12_join 34 = .ok (.iload_n 2, 1) := by decide +kernel
theorem dX12_join_35 : decode cX12_join 35 = .ok (.invokevirtual 94, 3) := by decide +kernel
theorem dX12_join_38 : decode cX12_join 38 = .ok (.iload_n 3, 1) := by decide +kernel
theorem dX12_join_39 : decode cX12_join 39 = .ok (.invokevirtual 168, 3) := by decide +kernel
theorem dX12_join_42 : decode cX12_join 42 = .ok (.aload_n 0, 1) := by decide +kernel
theorem dX12_join_43 : decode cX12_join 43 = .ok (.getfield 27, 3) := by decide +kernel
theorem dX12_join_46 : decode cX12_join 46 = .ok (.iload_n 1, 1) := by decide +kernel
theorem dX12_join_47 : decode cX12_join 47 = .ok (.aaload, 1) := by decide +kernel
theorem dX12_join_48 : decode cX12_join 48 = .ok (.iload_n 2, 1) := by decide +kernel
theorem dX12_join_49 : decode cX12_join 49 = .ok (.invokevirtual 94, 3) := by decide +kernel
theorem dX12_join_52 : decode cX12_join 52 = .ok (.getfield 108, 3) := by decide +kernel
theorem dX12_join_55 : decode cX12_join 55 = .ok (.ireturn, 1) := by decide +kernel
theorem dX12_told_0 : decode cX12_told 0 = .ok (.iconst 0, 1) := by decide +kernel
theorem dX12_told_1 : decode cX12_told 1 = .ok (.istore_n 2, 1) := by decide +kernel
theorem dX12_told_2 : decode cX12_told 2 = .ok (.iconst 0, 1) := by decide +kernel
theorem dX12_told_3 : decode cX12_told 3 = .ok (.istore_n 3, 1) := by decide +kernel
theorem dX12_told_4 : decode cX12_told 4 = .ok (.iload_n 3, 1) := by decide +kernel
theorem dX12_told_5 : decode cX12_told 5 = .ok (.aload_n 0, 1) := by decide +kernel
theorem dX12_told_6 : decode cX12_told 6 = .ok (.getfield 22, 3) := by decide +kernel
theorem dX12_told_9 : decode cX12_told 9 = .ok (.if_icmp .ge 24, 3) := by decide +kernel
theorem dX12_told_12 : decode cX12_told 12 = .ok (.aload_n 0, 1) := by decide +kernel
theorem dX12_told_13 : decode cX12_told 13 = .ok (.getfield 27, 3) := by decide +kernel
theorem dX12_told_16 : decode cX12_told 16 = .ok (.iload_n 3, 1) := by decide +kernel
theorem dX12_told_17 : decode cX12_told 17 = .ok (.aaload, 1) := by decide +kernel
theorem dX12_told_18 : decode cX12_told 18 = .ok (.getfield 113, 3) := by decide +kernel
theorem dX12_told_21 : decode cX12_told 21 = .ok (.ifCond .le 6, 3) := by decide +kernel
theorem dX12_told_24 : decode cX12_told 24 = .ok (.iinc 2 1, 3) := by decide +kernel
theorem dX12_told_27 : decode cX12_told 27 = .ok (.iinc 3 1, 3) := by decide +kernel
theorem dX12_told_30 : decode cX12_told 30 = .ok (.goto (-26), 3) := by decide +kernel
theorem dX12_told_33 : decode cX12_told 33 = .ok (.iload_n 1, 1) := by decide +kernel
theorem dX12_told_34 : decode cX12_told 34 = .ok (.tableswitch 164 0 14 #[74, 79, 84, 89, 94, 99, 104, 116, 129, 134, 139, 144, 149, 154, 159], 74) := by decide +kernel
theorem dX12_told_108 : decode cX12_told 108 = .ok (.aload_n 0, 1) := by decide +kernel
theorem dX12_told_109 : decode cX12_told 109 = .ok (.getfield 22, 3) := by decide +kernel
theorem dX12_told_112 : decode cX12_told 112 = .ok (.ireturn, 1) := by decide +kernel
theorem dX12_told_113 : decode cX12_told 113 = .ok (.aload_n 0, 1) := by decide +kernel
theorem dX12_told_114 : decode cX12_told 114 = .ok (.getfield 31, 3) := by decide +kernel
theorem dX12_told_117 : decode cX12_told 117 = .ok (.ireturn, 1) := by decide +kernel
theorem dX12_told_118 : decode cX12_told 118 = .ok (.aload_n 0, 1) := by decide +kernel
theorem dX12_told_119 : decode cX12_told 119 = .ok (.getfield 7, 3) := by decide +kernel
theorem dX12_told_122 : decode cX12_told 122 = .ok (.ireturn, 1) := by decide +kernel
theorem dX12_told_123 : decode cX12_told 123 = .ok (.aload_n 0, 1) := by decide +kernel
theorem dX12_told_124 : decode cX12_told 124 = .ok (.getfield 13, 3) := by decide +kernel
theorem dX12_told_127 : decode cX12_told 127 = .ok (.ireturn, 1) := by decide +kernel
theorem dX12_told_128 : decode cX12_told 128 = .ok (.aload_n 0, 1) := by decide +kernel
theorem dX12_told_129 : decode cX12_told 129 = .ok (.getfield 16, 3) := by decide +kernel
theorem dX12_told_132 : decode cX12_told 132 = .ok (.ireturn, 1) := by decide +kernel
theorem dX12_told_133 : decode cX12_told 133 = .ok (.aload_n 0, 1) := by decide +kernel
theorem dX12_told_134 : decode cX12_told 134 = .ok (.getfield 19, 3) := by decide +kernel
theorem dX12_told_137 : decode cX12_told 137 = .ok (.ireturn, 1) := by decide +kernel
theorem dX12_told_138 : decode cX12_told 138 = .ok (.aload_n 0, 1) := by decide +kernel
theorem dX12_told_139 : decode cX12_told 139 = .ok (.iconst 0, 1) := by decide +kernel
theorem dX12_told_140 : decode cX12_told 140 = .ok (.invokevirtual 161, 3) := by decide +kernel
theorem dX12_told_143 : decode cX12_told 143 = .ok (.aload_n 0, 1) := by decide +kernel
theorem dX12_told_144 : decode cX12_told 144 = .ok (.iconst 1, 1) := by decide +kernel
theorem dX12_told_145 : decode cX12_told 145 = .ok (.invokevirtual 161, 3) := by decide +kernel
theorem dX12_told_148 : decode cX12_told 148 = .ok (.iadd, 1) := by decide +kernel
theorem dX12_told_149 : decode cX12_told 149 = .ok (.ireturn, 1) := by decide +kernel
theorem dX12_told_150 : decode cX12_told 150 = .ok (.aload_n 0, 1) := by decide +kernel
theorem dX12_told_151 : decode cX12_told 151 = .ok (.invokevirtual 87, 3) := by decide +kernel
theorem dX12_told_154 : decode cX12_told 154 = .ok (.ifCond .eq 7, 3) := by decide +kernel
theorem dX12_told_157 : decode cX12_told 157 = .ok (.iconst 1, 1) := by decide +kernel
theorem dX12_told_158 : decode cX12_told 158 = .ok (.goto 4, 3) := by decide +kernel
theorem dX12_told_161 : decode cX12_told 161 = .ok (.iconst 0, 1) := by decide +kernel
theorem dX12_told_162 : decode cX12_told 162 = .ok (.ireturn, 1) := by decide +kernel
theorem dX12_told_163 : decode cX12_told 163 = .ok (.aload_n 0, 1) := by decide +kernel
theorem dX12_told_164 : decode cX12_told 164 = .ok (.invokevirtual 83, 3) := by decide +kernel
theorem dX12_told_167 : decode cX12_told 167 = .ok (.ireturn, 1) := by decide +kernel
theorem dX12_told_168 : decode cX12_told 168 = .ok (.aload_n 0, 1) := by decide +kernel
theorem dX12_told_169 : decode cX12_told 169 = .ok (.getfield 44, 3) := by decide +kernel
theorem dX12_told_172 : decode cX12_told 172 = .ok (.ireturn, 1) := by decide +kernel
theorem dX12_told_173 : decode cX12_told 173 = .ok (.aload_n 0, 1) := by decide +kernel
theorem dX12_told_174 : decode cX12_told 174 = .ok (.getfield 47, 3) := by decide +kernel
theorem dX12_told_177 : decode cX12_told 177 = .ok (.ireturn, 1) := by decide +kernel
theorem dX12_told_178 : decode cX12_told 178 = .ok (.aload_n 0, 1) := by decide +kernel
theorem dX12_told_179 : decode cX12_told 179 = .ok (.getfield 50, 3) := by decide +kernel
theorem dX12_told_182 : decode cX12_told 182 = .ok (.ireturn, 1) := by decide +kernel
theorem dX12_told_183 : decode cX12_told 183 = .ok (.aload_n 0, 1) := by decide +kernel
theorem dX12_told_184 : decode cX12_told 184 = .ok (.getfield 53, 3) := by decide +kernel
theorem dX12_told_187 : decode cX12_told 187 = .ok (.ireturn, 1) := by decide +kernel
theorem dX12_told_188 : decode cX12_told 188 = .ok (.aload_n 0, 1) := by decide +kernel
theorem dX12_told_189 : decode cX12_told 189 = .ok (.getfield 56, 3) := by decide +kernel
theorem dX12_told_192 : decode cX12_told 192 = .ok (.ireturn, 1) := by decide +kernel
theorem dX12_told_193 : decode cX12_told 193 = .ok (.aload_n 0, 1) := by decide +kernel
theorem dX12_told_194 : decode cX12_told 194 = .ok (.getfield 59, 3) := by decide +kernel
theorem dX12_told_197 : decode cX12_told 197 = .ok (.ireturn, 1) := by decide +kernel
theorem dX12_told_198 : decode cX12_told 198 = .ok (.iload_n 2, 1) := by decide +kernel
theorem dX12_told_199 : decode cX12_told 199 = .ok (.ireturn, 1) := by decide +kernel
theorem dX12_ofGate_0 : decode cX12_ofGate 0 = .ok (.aload_n 0, 1) := by decide +kernel
theorem dX12_ofGate_1 : decode cX12_ofGate 1 = .ok (.getfield 27, 3) := by decide +kernel
theorem dX12_ofGate_4 : decode cX12_ofGate 4 = .ok (.iload_n 1, 1) := by decide +kernel
theorem dX12_ofGate_5 : decode cX12_ofGate 5 = .ok (.aaload, 1) := by decide +kernel
theorem dX12_ofGate_6 : decode cX12_ofGate 6 = .ok (.astore_n 3, 1) := by decide +kernel
theorem dX12_ofGate_7 : decode cX12_ofGate 7 = .ok (.iload_n 2, 1) := by decide +kernel
theorem dX12_ofGate_8 : decode cX12_ofGate 8 = .ok (.tableswitch 102 0 7 #[48, 53, 58, 63, 76, 84, 92, 97], 48) := by decide +kernel
theorem dX12_ofGate_56 : decode cX12_ofGate 56 = .ok (.aload_n 3, 1) := by decide +kernel
theorem dX12_ofGate_57 : decode cX12_ofGate 57 = .ok (.getfield 171, 3) := by decide +kernel
theorem dX12_ofGate_60 : decode cX12_ofGate 60 = .ok (.ireturn, 1) := by decide +kernel
theorem dX12_ofGate_61 : decode cX12_ofGate 61 = .ok (.aload_n 3, 1) := by decide +kernel
theorem dX12_ofGate_62 : decode cX12_ofGate 62 = .ok (.getfield 113, 3) := by decide +kernel
theorem dX12_ofGate_65 : decode cX12_ofGate 65 = .ok (.ireturn, 1) := by decide +kernel
theorem dX12_ofGate_66 : decode cX12_ofGate 66 = .ok (.aload_n 3, 1) := by decide +kernel
theorem dX12_ofGate_67 : decode cX12_ofGate 67 = .ok (.getfield 116, 3) := by decide +kernel
theorem dX12_ofGate_70 : decode cX12_ofGate 70 = .ok (.ireturn, 1) := by decide +kernel
theorem dX12_ofGate_71 : decode cX12_ofGate 71 = .ok (.aload_n 3, 1) := by decide +kernel
theorem dX12_ofGate_72 : decode cX12_ofGate 72 = .ok (.getfield 119, 3) := by decide +kernel
theorem dX12_ofGate_75 : decode cX12_ofGate 75 = .ok (.ifCond .eq 7, 3) := by decide +kernel
theorem dX12_ofGate_78 : decode cX12_ofGate 78 = .ok (.iconst 1, 1) := by decide +kernel
theorem dX12_ofGate_79 : decode cX12_ofGate 79 = .ok (.goto 4, 3) := by decide +kernel
theorem dX12_ofGate_82 : decode cX12_ofGate 82 = .ok (.iconst 0, 1) := by decide +kernel
theorem dX12_ofGate_83 : decode cX12_ofGate 83 = .ok (.ireturn, 1) := by decide +kernel
theorem dX12_ofGate_84 : decode cX12_ofGate 84 = .ok (.aload_n 3, 1) := by decide +kernel
theorem dX12_ofGate_85 : decode cX12_ofGate 85 = .ok (.getfield 174, 3) := by decide +kernel
theorem dX12_ofGate_88 : decode cX12_ofGate 88 = .ok (.getfield 108, 3) := by decide +kernel
theorem dX12_ofGate_91 : decode cX12_ofGate 91 = .ok (.ireturn, 1) := by decide +kernel
theorem dX12_ofGate_92 : decode cX12_ofGate 92 = .ok (.aload_n 3, 1) := by decide +kernel
theorem dX12_ofGate_93 : decode cX12_ofGate 93 = .ok (.getfield 104, 3) := by decide +kernel
theorem dX12_ofGate_96 : decode cX12_ofGate 96 = .ok (.getfield 108, 3) := by decide +kernel
theorem dX12_ofGate_99 : decode cX12_ofGate 99 = .ok (.ireturn, 1) := by decide +kernel
theorem dX12_ofGate_100 : decode cX12_ofGate 100 = .ok (.aload_n 3, 1) := by decide +kernel
theorem dX12_ofGate_101 : decode cX12_ofGate 101 = .ok (.getfield 125, 3) := by decide +kernel
theorem dX12_ofGate_104 : decode cX12_ofGate 104 = .ok (.ireturn, 1) := by decide +kernel
theorem dX12_ofGate_105 : decode cX12_ofGate 105 = .ok (.aload_n 3, 1) := by decide +kernel
theorem dX12_ofGate_106 : decode cX12_ofGate 106 = .ok (.getfield 144, 3) := by decide +kernel
theorem dX12_ofGate_109 : decode cX12_ofGate 109 = .ok (.ireturn, 1) := by decide +kernel
theorem dX12_ofGate_110 : decode cX12_ofGate 110 = .ok (.aload_n 3, 1) := by decide +kernel
theorem dX12_ofGate_111 : decode cX12_ofGate 111 = .ok (.getfield 141, 3) := by decide +kernel
theorem dX12_ofGate_114 : decode cX12_ofGate 114 = .ok (.ireturn, 1) := by decide +kernel
theorem dX12_ofCard_0 : decode cX12_ofCard 0 = .ok (.aload_n 0, 1) := by decide +kernel
theorem dX12_ofCard_1 : decode cX12_ofCard 1 = .ok (.iload_n 1, 1) := by decide +kernel
theorem dX12_ofCard_2 : decode cX12_ofCard 2 = .ok (.invokevirtual 158, 3) := by decide +kernel
theorem dX12_ofCard_5 : decode cX12_ofCard 5 = .ok (.istore_n 3, 1) := by decide +kernel
theorem dX12_ofCard_6 : decode cX12_ofCard 6 = .ok (.iload_n 2, 1) := by decide +kernel
theorem dX12_ofCard_7 : decode cX12_ofCard 7 = .ok (.tableswitch 125 0 5 #[37, 47, 65, 83, 96, 112], 37) := by decide +kernel
theorem dX12_ofCard_44 : decode cX12_ofCard 44 = .ok (.aload_n 0, 1) := by decide +kernel
theorem dX12_ofCard_45 : decode cX12_ofCard 45 = .ok (.getfield 36, 3) := by decide +kernel
theorem dX12_ofCard_48 : decode cX12_ofCard 48 = .ok (.iload_n 1, 1) := by decide +kernel
theorem dX12_ofCard_49 : decode cX12_ofCard 49 = .ok (.aaload, 1) := by decide +kernel
theorem dX12_ofCard_50 : decode cX12_ofCard 50 = .ok (.getfield 67, 3) := by decide +kernel
theorem dX12_ofCard_53 : decode cX12_ofCard 53 = .ok (.ireturn, 1) := by decide +kernel
theorem dX12_ofCard_54 : decode cX12_ofCard 54 = .ok (.aload_n 0, 1) := by decide +kernel
theorem dX12_ofCard_55 : decode cX12_ofCard 55 = .ok (.getfield 36, 3) := by decide +kernel
theorem dX12_ofCard_58 : decode cX12_ofCard 58 = .ok (.iload_n 1, 1) := by decide +kernel
theorem dX12_ofCard_59 : decode cX12_ofCard 59 = .ok (.aaload, 1) := by decide +kernel
theorem dX12_ofCard_60 : decode cX12_ofCard 60 = .ok (.getfield 73, 3) := by decide +kernel
theorem dX12_ofCard_63 : decode cX12_ofCard 63 = .ok (.ifCond .eq 7, 3) := by decide +kernel
theorem dX12_ofCard_66 : decode cX12_ofCard 66 = .ok (.iconst 1, 1) := by decide +kernel
theorem dX12_ofCard_67 : decode cX12_ofCard 67 = .ok (.goto 4, 3) := by decide +kernel
theorem dX12_ofCard_70 : decode cX12_ofCard 70 = .ok (.iconst 0, 1) := by decide +kernel
theorem dX12_ofCard_71 : decode cX12_ofCard 71 = .ok (.ireturn, 1) := by decide +kernel
theorem dX12_ofCard_72 : decode cX12_ofCard 72 = .ok (.aload_n 0, 1) := by decide +kernel
theorem dX12_ofCard_73 : decode cX12_ofCard 73 = .ok (.getfield 36, 3) := by decide +kernel
theorem dX12_ofCard_76 : decode cX12_ofCard 76 = .ok (.iload_n 1, 1) := by decide +kernel
theorem dX12_ofCard_77 : decode cX12_ofCard 77 = .ok (.aaload, 1) := by decide +kernel
theorem dX12_ofCard_78 : decode cX12_ofCard 78 = .ok (.getfield 77, 3) := by decide +kernel
theorem dX12_ofCard_81 : decode cX12_ofCard 81 = .ok (.ifCond .eq 7, 3) := by decide +kernel
theorem dX12_ofCard_84 : decode cX12_ofCard 84 = .ok (.iconst 1, 1) := by decide +kernel
theorem dX12_ofCard_85 : decode cX12_ofCard 85 = .ok (.goto 4, 3) := by decide +kernel
theorem dX12_ofCard_88 : decode cX12_ofCard 88 = .ok (.iconst 0, 1) := by decide +kernel
theorem dX12_ofCard_89 : decode cX12_ofCard 89 = .ok (.ireturn, 1) := by decide +kernel
theorem dX12_ofCard_90 : decode cX12_ofCard 90 = .ok (.iload_n 3, 1) := by decide +kernel
theorem dX12_ofCard_91 : decode cX12_ofCard 91 = .ok (.ifCond .ge 7, 3) := by decide +kernel
theorem dX12_ofCard_94 : decode cX12_ofCard 94 = .ok (.iconst (-1), 1) := by decide +kernel
theorem dX12_ofCard_95 : decode cX12_ofCard 95 = .ok (.goto 7, 3) := by decide +kernel
theorem dX12_ofCard_98 : decode cX12_ofCard 98 = .ok (.iload_n 3, 1) := by decide +kernel
theorem dX12_ofCard_99 : decode cX12_ofCard 99 = .ok (.bipush 100, 2) := by decide +kernel
theorem dX12_ofCard_101 : decode cX12_ofCard 101 = .ok (.idiv, 1) := by decide +kernel
theorem dX12_ofCard_102 : decode cX12_ofCard 102 = .ok (.ireturn, 1) := by decide +kernel
theorem dX12_ofCard_103 : decode cX12_ofCard 103 = .ok (.iload_n 3, 1) := by decide +kernel
theorem dX12_ofCard_104 : decode cX12_ofCard 104 = .ok (.ifCond .ge 7, 3) := by decide +kernel
theorem dX12_ofCard_107 : decode cX12_ofCard 107 = .ok (.iconst (-1), 1) := by decide +kernel
theorem dX12_ofCard_108 : decode cX12_ofCard 108 = .ok (.goto 10, 3) := by decide +kernel
theorem dX12_ofCard_111 : decode cX12_ofCard 111 = .ok (.iload_n 3, 1) := by decide +kernel
theorem dX12_ofCard_112 : decode cX12_ofCard 112 = .ok (.bipush 100, 2) := by decide +kernel
theorem dX12_ofCard_114 : decode cX12_ofCard 114 = .ok (.irem, 1) := by decide +kernel
theorem dX12_ofCard_115 : decode cX12_ofCard 115 = .ok (.bipush 50, 2) := by decide +kernel
theorem dX12_ofCard_117 : decode cX12_ofCard 117 = .ok (.idiv, 1) := by decide +kernel
theorem dX12_ofCard_118 : decode cX12_ofCard 118 = .ok (.ireturn, 1) := by decide +kernel
theorem dX12_ofCard_119 : decode cX12_ofCard 119 = .ok (.iload_n 3, 1) := by decide +kernel
theorem dX12_ofCard_120 : decode cX12_ofCard 120 = .ok (.ifCond .ge 7, 3) := by decide +kernel
theorem dX12_ofCard_123 : decode cX12_ofCard 123 = .ok (.iconst (-1), 1) := by decide +kernel
theorem dX12_ofCard_124 : decode cX12_ofCard 124 = .ok (.goto 7, 3) := by decide +kernel
theorem dX12_ofCard_127 : decode cX12_ofCard 127 = .ok (.iload_n 3, 1) := by decide +kernel
theorem dX12_ofCard_128 : decode cX12_ofCard 128 = .ok (.bipush 50, 2) := by decide +kernel
theorem dX12_ofCard_130 : decode cX12_ofCard 130 = .ok (.irem, 1) := by decide +kernel
theorem dX12_ofCard_131 : decode cX12_ofCard 131 = .ok (.ireturn, 1) := by decide +kernel
theorem dX12_ofCard_132 : decode cX12_ofCard 132 = .ok (.aload_n 0, 1) := by decide +kernel
theorem dX12_ofCard_133 : decode cX12_ofCard 133 = .ok (.getfield 36, 3) := by decide +kernel
theorem dX12_ofCard_136 : decode cX12_ofCard 136 = .ok (.iload_n 1, 1) := by decide +kernel
theorem dX12_ofCard_137 : decode cX12_ofCard 137 = .ok (.aaload, 1) := by decide +kernel
theorem dX12_ofCard_138 : decode cX12_ofCard 138 = .ok (.getfield 80, 3) := by decide +kernel
theorem dX12_ofCard_141 : decode cX12_ofCard 141 = .ok (.ireturn, 1) := by decide +kernel
theorem dX12_checksum_0 : decode cX12_checksum 0 = .ok (.lconst 0, 1) := by decide +kernel
theorem dX12_checksum_1 : decode cX12_checksum 1 = .ok (.lstore_n 1, 1) := by decide +kernel
theorem dX12_checksum_2 : decode cX12_checksum 2 = .ok (.iconst 0, 1) := by decide +kernel
theorem dX12_checksum_3 : decode cX12_checksum 3 = .ok (.istore_n 3, 1) := by decide +kernel
theorem dX12_checksum_4 : decode cX12_checksum 4 = .ok (.iload_n 3, 1) := by decide +kernel
theorem dX12_checksum_5 : decode cX12_checksum 5 = .ok (.bipush 16, 2) := by decide +kernel
theorem dX12_checksum_7 : decode cX12_checksum 7 = .ok (.if_icmp .ge 22, 3) := by decide +kernel
theorem dX12_checksum_10 : decode cX12_checksum 10 = .ok (.ldc2_w 177, 3) := by decide +kernel
theorem dX12_checksum_13 : decode cX12_checksum 13 = .ok (.lload_n 1, 1) := by decide +kernel
theorem dX12_checksum_14 : decode cX12_checksum 14 = .ok (.lmul, 1) := by decide +kernel
theorem dX12_checksum_15 : decode cX12_checksum 15 = .ok (.aload_n 0, 1) := by decide +kernel
theorem dX12_checksum_16 : decode cX12_checksum 16 = .ok (.iload_n 3, 1) := by decide +kernel
theorem dX12_checksum_17 : decode cX12_checksum 17 = .ok (.invokevirtual 179, 3) := by decide +kernel
theorem dX12_checksum_20 : decode cX12_checksum 20 = .ok (.i2l, 1) := by decide +kernel
theorem dX12_checksum_21 : decode cX12_checksum 21 = .ok (.ladd, 1) := by decide +kernel
theorem dX12_checksum_22 : decode cX12_checksum 22 = .ok (.lstore_n 1, 1) := by decide +kernel
theorem dX12_checksum_23 : decode cX12_checksum 23 = .ok (.iinc 3 1, 3) := by decide +kernel
theorem dX12_checksum_26 : decode cX12_checksum 26 = .ok (.goto (-22), 3) := by decide +kernel
theorem dX12_checksum_29 : decode cX12_checksum 29 = .ok (.iconst 0, 1) := by decide +kernel
theorem dX12_checksum_30 : decode cX12_checksum 30 = .ok (.istore_n 3, 1) := by decide +kernel
theorem dX12_checksum_31 : decode cX12_checksum 31 = .ok (.iload_n 3, 1) := by decide +kernel
theorem dX12_checksum_32 : decode cX12_checksum 32 = .ok (.aload_n 0, 1) := by decide +kernel
theorem dX12_checksum_33 : decode cX12_checksum 33 = .ok (.getfield 22, 3) := by decide +kernel
theorem dX12_checksum_36 : decode cX12_checksum 36 = .ok (.if_icmp .ge 108, 3) := by decide +kernel
theorem dX12_checksum_39 : decode cX12_checksum 39 = .ok (.iconst 0, 1) := by decide +kernel
theorem dX12_checksum_40 : decode cX12_checksum 40 = .ok (.istore 4, 2) := by decide +kernel
theorem dX12_checksum_42 : decode cX12_checksum 42 = .ok (.iload 4, 2) := by decide +kernel
theorem dX12_checksum_44 : decode cX12_checksum 44 = .ok (.bipush 9, 2) := by decide +kernel
theorem dX12_checksum_46 : decode cX12_checksum 46 = .ok (.if_icmp .ge 24, 3) := by decide +kernel
theorem dX12_checksum_49 : decode cX12_checksum 49 = .ok (.ldc2_w 177, 3) := by decide +kernel
theorem dX12_checksum_52 : decode cX12_checksum 52 = .ok (.lload_n 1, 1) := by decide +kernel
theorem dX12_checksum_53 : decode cX12_checksum 53 = .ok (.lmul, 1) := by decide +kernel
theorem dX12_checksum_54 : decode cX12_checksum 54 = .ok (.aload_n 0, 1) := by decide +kernel
theorem dX12_checksum_55 : decode cX12_checksum 55 = .ok (.iload_n 3, 1) := by decide +kernel
theorem dX12_checksum_56 : decode cX12_checksum 56 = .ok (.iload 4, 2) := by decide +kernel
theorem dX12_checksum_58 : decode cX12_checksum 58 = .ok (.invokevirtual 182, 3) := by decide +kernel
theorem dX12_checksum_61 : decode cX12_checksum 61 = .ok (.i2l, 1) := by decide +kernel
theorem dX12_checksum_62 : decode cX12_checksum 62 = .ok (.ladd, 1) := by decide +kernel
theorem dX12_checksum_63 : decode cX12_checksum 63 = .ok (.lstore_n 1, 1) := by decide +kernel
theorem dX12_checksum_64 : decode cX12_checksum 64 = .ok (.iinc 4 1, 3) := by decide +kernel
theorem dX12_checksum_67 : decode cX12_checksum 67 = .ok (.goto (-25), 3) := by decide +kernel
theorem dX12_checksum_70 : decode cX12_checksum 70 = .ok (.iconst 0, 1) := by decide +kernel
theorem dX12_checksum_71 : decode cX12_checksum 71 = .ok (.istore 4, 2) := by decide +kernel
theorem dX12_checksum_73 : decode cX12_checksum 73 = .ok (.iload 4, 2) := by decide +kernel
theorem dX12_checksum_75 : decode cX12_checksum 75 = .ok (.iconst 2, 1) := by decide +kernel
theorem dX12_checksum_76 : decode cX12_checksum 76 = .ok (.if_icmp .ge 62, 3) := by decide +kernel
theorem dX12_checksum_79 : decode cX12_checksum 79 = .ok (.iconst 0, 1) := by decide +kernel
theorem dX12_checksum_80 : decode cX12_checksum 80 = .ok (.istore 5, 2) := by decide +kernel
theorem dX12_checksum_82 : decode cX12_checksum 82 = .ok (.iload 5, 2) := by decide +kernel
theorem dX12_checksum_84 : decode cX12_checksum 84 = .ok (.aload_n 0, 1) := by decide +kernel
theorem dX12_checksum_85 : decode cX12_checksum 85 = .ok (.getfield 27, 3) := by decide +kernel
theorem dX12_checksum_88 : decode cX12_checksum 88 = .ok (.iload_n 3, 1) := by decide +kernel
theorem dX12_checksum_89 : decode cX12_checksum 89 = .ok (.aaload, 1) := by decide +kernel
theorem dX12_checksum_90 : decode cX12_checksum 90 = .ok (.iload 4, 2) := by decide +kernel
theorem dX12_checksum_92 : decode cX12_checksum 92 = .ok (.invokevirtual 94, 3) := by decide +kernel
theorem dX12_checksum_95 : decode cX12_checksum 95 = .ok (.getfield 108, 3) := by decide +kernel
theorem dX12_checksum_98 : decode cX12_checksum 98 = .ok (.if_icmp .ge 34, 3) := by decide +kernel
theorem dX12_checksum_101 : decode cX12_checksum 101 = .ok (.ldc2_w 177, 3) := by decide +kernel
theorem dX12_checksum_104 : decode cX12_checksum 104 = .ok (.lload_n 1, 1) := by decide +kernel
theorem dX12_checksum_105 : decode cX12_checksum 105 = .ok (.lmul, 1) := by decide +kernel
theorem dX12_checksum_106 : decode cX12_checksum 106 = .ok (.aload_n 0, 1) := by decide +kernel
theorem dX12_checksum_107 : decode cX12_checksum 107 = .ok (.getfield 27, 3) := by decide +kernel
theorem dX12_checksum_110 : decode cX12_checksum 110 = .ok (.iload_n 3, 1) := by decide +kernel
theorem dX12_checksum_111 : decode cX12_checksum 111 = .ok (.aaload, 1) := by decide +kernel
theorem dX12_checksum_112 : decode cX12_checksum 112 = .ok (.iload 4, 2) := by decide +kernel
theorem dX12_checksum_114 : decode cX12_checksum 114 = .ok (.invokevirtual 94, 3) := by decide +kernel
theorem dX12_checksum_117 : decode cX12_checksum 117 = .ok (.getfield 122, 3) := by decide +kernel
theorem dX12_checksum_120 : decode cX12_checksum 120 = .ok (.iload 5, 2) := by decide +kernel
theorem dX12_checksum_122 : decode cX12_checksum 122 = .ok (.iaload, 1) := by decide +kernel
theorem dX12_checksum_123 : decode cX12_checksum 123 = .ok (.i2l, 1) := by decide +kernel
theorem dX12_checksum_124 : decode cX12_checksum 124 = .ok (.ladd, 1) := by decide +kernel
theorem dX12_checksum_125 : decode cX12_checksum 125 = .ok (.lstore_n 1, 1) := by decide +kernel
theorem dX12_checksum_126 : decode cX12_checksum 126 = .ok (.iinc 5 1, 3) := by decide +kernel
theorem dX12_checksum_129 : decode cX12_checksum 129 = .ok (.goto (-47), 3) := by decide +kernel
theorem dX12_checksum_132 : decode cX12_checksum 132 = .ok (.iinc 4 1, 3) := by decide +kernel
theorem dX12_checksum_135 : decode cX12_checksum 135 = .ok (.goto (-62), 3) := by decide +kernel
theorem dX12_checksum_138 : decode cX12_checksum 138 = .ok (.iinc 3 1, 3) := by decide +kernel
theorem dX12_checksum_141 : decode cX12_checksum 141 = .ok (.goto (-110), 3) := by decide +kernel
theorem dX12_checksum_144 : decode cX12_checksum 144 = .ok (.iconst 0, 1) := by decide +kernel
theorem dX12_checksum_145 : decode cX12_checksum 145 = .ok (.istore_n 3, 1) := by decide +kernel
theorem dX12_checksum_146 : decode cX12_checksum 146 = .ok (.iload_n 3, 1) := by decide +kernel
theorem dX12_checksum_147 : decode cX12_checksum 147 = .ok (.aload_n 0, 1) := by decide +kernel
theorem dX12_checksum_148 : decode cX12_checksum 148 = .ok (.getfield 31, 3) := by decide +kernel
theorem dX12_checksum_151 : decode cX12_checksum 151 = .ok (.if_icmp .ge 40, 3) := by decide +kernel
theorem dX12_checksum_154 : decode cX12_checksum 154 = .ok (.iconst 0, 1) := by decide +kernel
theorem dX12_checksum_155 : decode cX12_checksum 155 = .ok (.istore 4, 2) := by decide +kernel
theorem dX12_checksum_157 : decode cX12_checksum 157 = .ok (.iload 4, 2) := by decide +kernel
theorem dX12_checksum_159 : decode cX12_checksum 159 = .ok (.bipush 7, 2) := by decide +kernel
theorem dX12_checksum_161 : decode cX12_checksum 161 = .ok (.if_icmp .ge 24, 3) := by decide +kernel
theorem dX12_checksum_164 : decode cX12_checksum 164 = .ok (.ldc2_w 177, 3) := by decide +kernel
theorem dX12_checksum_167 : decode cX12_checksum 167 = .ok (.lload_n 1, 1) := by decide +kernel
theorem dX12_checksum_168 : decode cX12_checksum 168 = .ok (.lmul, 1) := by decide +kernel
theorem dX12_checksum_169 : decode cX12_checksum 169 = .ok (.aload_n 0, 1) := by decide +kernel
theorem dX12_checksum_170 : decode cX12_checksum 170 = .ok (.iload_n 3, 1) := by decide +kernel
theorem dX12_checksum_171 : decode cX12_checksum 171 = .ok (.iload 4, 2) := by decide +kernel
theorem dX12_checksum_173 : decode cX12_checksum 173 = .ok (.invokevirtual 185, 3) := by decide +kernel
theorem dX12_checksum_176 : decode cX12_checksum 176 = .ok (.i2l, 1) := by decide +kernel
theorem dX12_checksum_177 : decode cX12_checksum 177 = .ok (.ladd, 1) := by decide +kernel
theorem dX12_checksum_178 : decode cX12_checksum 178 = .ok (.lstore_n 1, 1) := by decide +kernel
theorem dX12_checksum_179 : decode cX12_checksum 179 = .ok (.iinc 4 1, 3) := by decide +kernel
theorem dX12_checksum_182 : decode cX12_checksum 182 = .ok (.goto (-25), 3) := by decide +kernel
theorem dX12_checksum_185 : decode cX12_checksum 185 = .ok (.iinc 3 1, 3) := by decide +kernel
theorem dX12_checksum_188 : decode cX12_checksum 188 = .ok (.goto (-42), 3) := by decide +kernel
theorem dX12_checksum_191 : decode cX12_checksum 191 = .ok (.lload_n 1, 1) := by decide +kernel
theorem dX12_checksum_192 : decode cX12_checksum 192 = .ok (.lreturn, 1) := by decide +kernel
theorem dJ6_bitCount_0f7a4_0 : decode cJ6_bitCount_0f7a4 0 = .ok (.iload_n 0, 1) := by decide +kernel
theorem dJ6_bitCount_0f7a4_1 : decode cJ6_bitCount_0f7a4 1 = .ok (.iload_n 0, 1) := by decide +kernel
theorem dJ6_bitCount_0f7a4_2 : decode cJ6_bitCount_0f7a4 2 = .ok (.iconst 1, 1) := by decide +kernel
theorem dJ6_bitCount_0f7a4_3 : decode cJ6_bitCount_0f7a4 3 = .ok (.iushr, 1) := by decide +kernel
theorem dJ6_bitCount_0f7a4_4 : decode cJ6_bitCount_0f7a4 4 = .ok (.ldc_w 265, 3) := by decide +kernel
theorem dJ6_bitCount_0f7a4_7 : decode cJ6_bitCount_0f7a4 7 = .ok (.iand, 1) := by decide +kernel
theorem dJ6_bitCount_0f7a4_8 : decode cJ6_bitCount_0f7a4 8 = .ok (.isub, 1) := by decide +kernel
theorem dJ6_bitCount_0f7a4_9 : decode cJ6_bitCount_0f7a4 9 = .ok (.istore_n 0, 1) := by decide +kernel
theorem dJ6_bitCount_0f7a4_10 : decode cJ6_bitCount_0f7a4 10 = .ok (.iload_n 0, 1) := by decide +kernel
theorem dJ6_bitCount_0f7a4_11 : decode cJ6_bitCount_0f7a4 11 = .ok (.ldc_w 266, 3) := by decide +kernel
theorem dJ6_bitCount_0f7a4_14 : decode cJ6_bitCount_0f7a4 14 = .ok (.iand, 1) := by decide +kernel
theorem dJ6_bitCount_0f7a4_15 : decode cJ6_bitCount_0f7a4 15 = .ok (.iload_n 0, 1) := by decide +kernel
theorem dJ6_bitCount_0f7a4_16 : decode cJ6_bitCount_0f7a4 16 = .ok (.iconst 2, 1) := by decide +kernel
theorem dJ6_bitCount_0f7a4_17 : decode cJ6_bitCount_0f7a4 17 = .ok (.iushr, 1) := by decide +kernel
theorem dJ6_bitCount_0f7a4_18 : decode cJ6_bitCount_0f7a4 18 = .ok (.ldc_w 266, 3) := by decide +kernel
theorem dJ6_bitCount_0f7a4_21 : decode cJ6_bitCount_0f7a4 21 = .ok (.iand, 1) := by decide +kernel
theorem dJ6_bitCount_0f7a4_22 : decode cJ6_bitCount_0f7a4 22 = .ok (.iadd, 1) := by decide +kernel
theorem dJ6_bitCount_0f7a4_23 : decode cJ6_bitCount_0f7a4 23 = .ok (.istore_n 0, 1) := by decide +kernel
theorem dJ6_bitCount_0f7a4_24 : decode cJ6_bitCount_0f7a4 24 = .ok (.iload_n 0, 1) := by decide +kernel
theorem dJ6_bitCount_0f7a4_25 : decode cJ6_bitCount_0f7a4 25 = .ok (.iload_n 0, 1) := by decide +kernel
theorem dJ6_bitCount_0f7a4_26 : decode cJ6_bitCount_0f7a4 26 = .ok (.iconst 4, 1) := by decide +kernel
theorem dJ6_bitCount_0f7a4_27 : decode cJ6_bitCount_0f7a4 27 = .ok (.iushr, 1) := by decide +kernel
theorem dJ6_bitCount_0f7a4_28 : decode cJ6_bitCount_0f7a4 28 = .ok (.iadd, 1) := by decide +kernel
theorem dJ6_bitCount_0f7a4_29 : decode cJ6_bitCount_0f7a4 29 = .ok (.ldc_w 267, 3) := by decide +kernel
theorem dJ6_bitCount_0f7a4_32 : decode cJ6_bitCount_0f7a4 32 = .ok (.iand, 1) := by decide +kernel
theorem dJ6_bitCount_0f7a4_33 : decode cJ6_bitCount_0f7a4 33 = .ok (.istore_n 0, 1) := by decide +kernel
theorem dJ6_bitCount_0f7a4_34 : decode cJ6_bitCount_0f7a4 34 = .ok (.iload_n 0, 1) := by decide +kernel
theorem dJ6_bitCount_0f7a4_35 : decode cJ6_bitCount_0f7a4 35 = .ok (.iload_n 0, 1) := by decide +kernel
theorem dJ6_bitCount_0f7a4_36 : decode cJ6_bitCount_0f7a4 36 = .ok (.bipush 8, 2) := by decide +kernel
theorem dJ6_bitCount_0f7a4_38 : decode cJ6_bitCount_0f7a4 38 = .ok (.iushr, 1) := by decide +kernel
theorem dJ6_bitCount_0f7a4_39 : decode cJ6_bitCount_0f7a4 39 = .ok (.iadd, 1) := by decide +kernel
theorem dJ6_bitCount_0f7a4_40 : decode cJ6_bitCount_0f7a4 40 = .ok (.istore_n 0, 1) := by decide +kernel
theorem dJ6_bitCount_0f7a4_41 : decode cJ6_bitCount_0f7a4 41 = .ok (.iload_n 0, 1) := by decide +kernel
theorem dJ6_bitCount_0f7a4_42 : decode cJ6_bitCount_0f7a4 42 = .ok (.iload_n 0, 1) := by decide +kernel
theorem dJ6_bitCount_0f7a4_43 : decode cJ6_bitCount_0f7a4 43 = .ok (.bipush 16, 2) := by decide +kernel
theorem dJ6_bitCount_0f7a4_45 : decode cJ6_bitCount_0f7a4 45 = .ok (.iushr, 1) := by decide +kernel
theorem dJ6_bitCount_0f7a4_46 : decode cJ6_bitCount_0f7a4 46 = .ok (.iadd, 1) := by decide +kernel
theorem dJ6_bitCount_0f7a4_47 : decode cJ6_bitCount_0f7a4 47 = .ok (.istore_n 0, 1) := by decide +kernel
theorem dJ6_bitCount_0f7a4_48 : decode cJ6_bitCount_0f7a4 48 = .ok (.iload_n 0, 1) := by decide +kernel
theorem dJ6_bitCount_0f7a4_49 : decode cJ6_bitCount_0f7a4 49 = .ok (.bipush 63, 2) := by decide +kernel
theorem dJ6_bitCount_0f7a4_51 : decode cJ6_bitCount_0f7a4 51 = .ok (.iand, 1) := by decide +kernel
theorem dJ6_bitCount_0f7a4_52 : decode cJ6_bitCount_0f7a4 52 = .ok (.ireturn, 1) := by decide +kernel
theorem dJ9_abs_0f7a4_0 : decode cJ9_abs_0f7a4 0 = .ok (.iload_n 0, 1) := by decide +kernel
theorem dJ9_abs_0f7a4_1 : decode cJ9_abs_0f7a4 1 = .ok (.ifCond .ge 8, 3) := by decide +kernel
theorem dJ9_abs_0f7a4_4 : decode cJ9_abs_0f7a4 4 = .ok (.iload_n 0, 1) := by decide +kernel
theorem dJ9_abs_0f7a4_5 : decode cJ9_abs_0f7a4 5 = .ok (.ineg, 1) := by decide +kernel
theorem dJ9_abs_0f7a4_6 : decode cJ9_abs_0f7a4 6 = .ok (.goto 4, 3) := by decide +kernel
theorem dJ9_abs_0f7a4_9 : decode cJ9_abs_0f7a4 9 = .ok (.iload_n 0, 1) := by decide +kernel
theorem dJ9_abs_0f7a4_10 : decode cJ9_abs_0f7a4 10 = .ok (.ireturn, 1) := by decide +kernel
theorem dJ9_min_7cf53_0 : decode cJ9_min_7cf53 0 = .ok (.iload_n 0, 1) := by decide +kernel
theorem dJ9_min_7cf53_1 : decode cJ9_min_7cf53 1 = .ok (.iload_n 1, 1) := by decide +kernel
theorem dJ9_min_7cf53_2 : decode cJ9_min_7cf53 2 = .ok (.if_icmp .gt 7, 3) := by decide +kernel
theorem dJ9_min_7cf53_5 : decode cJ9_min_7cf53 5 = .ok (.iload_n 0, 1) := by decide +kernel
theorem dJ9_min_7cf53_6 : decode cJ9_min_7cf53 6 = .ok (.goto 4, 3) := by decide +kernel
theorem dJ9_min_7cf53_9 : decode cJ9_min_7cf53 9 = .ok (.iload_n 1, 1) := by decide +kernel
theorem dJ9_min_7cf53_10 : decode cJ9_min_7cf53 10 = .ok (.ireturn, 1) := by decide +kernel
theorem dJ0_length_8abf5_0 : decode cJ0_length_8abf5 0 = .ok (.aload_n 0, 1) := by decide +kernel
theorem dJ0_length_8abf5_1 : decode cJ0_length_8abf5 1 = .ok (.getfield 9, 3) := by decide +kernel
theorem dJ0_length_8abf5_4 : decode cJ0_length_8abf5 4 = .ok (.arraylength, 1) := by decide +kernel
theorem dJ0_length_8abf5_5 : decode cJ0_length_8abf5 5 = .ok (.aload_n 0, 1) := by decide +kernel
theorem dJ0_length_8abf5_6 : decode cJ0_length_8abf5 6 = .ok (.invokevirtual 335, 3) := by decide +kernel
theorem dJ0_length_8abf5_9 : decode cJ0_length_8abf5 9 = .ok (.ishr, 1) := by decide +kernel
theorem dJ0_length_8abf5_10 : decode cJ0_length_8abf5 10 = .ok (.ireturn, 1) := by decide +kernel
theorem dJ0_charAt_5068e_0 : decode cJ0_charAt_5068e 0 = .ok (.aload_n 0, 1) := by decide +kernel
theorem dJ0_charAt_5068e_1 : decode cJ0_charAt_5068e 1 = .ok (.invokevirtual 492, 3) := by decide +kernel
theorem dJ0_charAt_5068e_4 : decode cJ0_charAt_5068e 4 = .ok (.ifCond .eq 12, 3) := by decide +kernel
theorem dJ0_charAt_5068e_7 : decode cJ0_charAt_5068e 7 = .ok (.aload_n 0, 1) := by decide +kernel
theorem dJ0_charAt_5068e_8 : decode cJ0_charAt_5068e 8 = .ok (.getfield 9, 3) := by decide +kernel
theorem dJ0_charAt_5068e_11 : decode cJ0_charAt_5068e 11 = .ok (.iload_n 1, 1) := by decide +kernel
theorem dJ0_charAt_5068e_12 : decode cJ0_charAt_5068e 12 = .ok (.invokestatic 495, 3) := by decide +kernel
theorem dJ0_charAt_5068e_15 : decode cJ0_charAt_5068e 15 = .ok (.ireturn, 1) := by decide +kernel
theorem dJ0_charAt_5068e_16 : decode cJ0_charAt_5068e 16 = .ok (.aload_n 0, 1) := by decide +kernel
theorem dJ0_charAt_5068e_17 : decode cJ0_charAt_5068e 17 = .ok (.getfield 9, 3) := by decide +kernel
theorem dJ0_charAt_5068e_20 : decode cJ0_charAt_5068e 20 = .ok (.iload_n 1, 1) := by decide +kernel
theorem dJ0_charAt_5068e_21 : decode cJ0_charAt_5068e 21 = .ok (.invokestatic 498, 3) := by decide +kernel
theorem dJ0_charAt_5068e_24 : decode cJ0_charAt_5068e 24 = .ok (.ireturn, 1) := by decide +kernel
theorem dJ0_coder_7d493_0 : decode cJ0_coder_7d493 0 = .ok (.getstatic 38, 3) := by decide +kernel
theorem dJ0_coder_7d493_3 : decode cJ0_coder_7d493 3 = .ok (.ifCond .eq 10, 3) := by decide +kernel
theorem dJ0_coder_7d493_6 : decode cJ0_coder_7d493 6 = .ok (.aload_n 0, 1) := by decide +kernel
theorem dJ0_coder_7d493_7 : decode cJ0_coder_7d493 7 = .ok (.getfield 15, 3) := by decide +kernel
theorem dJ0_coder_7d493_10 : decode cJ0_coder_7d493 10 = .ok (.goto 4, 3) := by decide +kernel
theorem dJ0_coder_7d493_13 : decode cJ0_coder_7d493 13 = .ok (.iconst 1, 1) := by decide +kernel
theorem dJ0_coder_7d493_14 : decode cJ0_coder_7d493 14 = .ok (.ireturn, 1) := by decide +kernel
theorem dJ0_isLatin1_aae02_0 : decode cJ0_isLatin1_aae02 0 = .ok (.getstatic 38, 3) := by decide +kernel
theorem dJ0_isLatin1_aae02_3 : decode cJ0_isLatin1_aae02 3 = .ok (.ifCond .eq 14, 3) := by decide +kernel
theorem dJ0_isLatin1_aae02_6 : decode cJ0_isLatin1_aae02 6 = .ok (.aload_n 0, 1) := by decide +kernel
theorem dJ0_isLatin1_aae02_7 : decode cJ0_isLatin1_aae02 7 = .ok (.getfield 15, 3) := by decide +kernel
theorem dJ0_isLatin1_aae02_10 : decode cJ0_isLatin1_aae02 10 = .ok (.ifCond .ne 7, 3) := by decide +kernel
theorem dJ0_isLatin1_aae02_13 : decode cJ0_isLatin1_aae02 13 = .ok (.iconst 1, 1) := by decide +kernel
theorem dJ0_isLatin1_aae02_14 : decode cJ0_isLatin1_aae02 14 = .ok (.goto 4, 3) := by decide +kernel
theorem dJ0_isLatin1_aae02_17 : decode cJ0_isLatin1_aae02 17 = .ok (.iconst 0, 1) := by decide +kernel
theorem dJ0_isLatin1_aae02_18 : decode cJ0_isLatin1_aae02 18 = .ok (.ireturn, 1) := by decide +kernel
theorem dJ0_checkIndex_df160_0 : decode cJ0_checkIndex_df160 0 = .ok (.iload_n 0, 1) := by decide +kernel
theorem dJ0_checkIndex_df160_1 : decode cJ0_checkIndex_df160 1 = .ok (.iload_n 1, 1) := by decide +kernel
theorem dJ0_checkIndex_df160_2 : decode cJ0_checkIndex_df160 2 = .ok (.getstatic 1053, 3) := by decide +kernel
theorem dJ0_checkIndex_df160_5 : decode cJ0_checkIndex_df160 5 = .ok (.invokestatic 1059, 3) := by decide +kernel
theorem dJ0_checkIndex_df160_8 : decode cJ0_checkIndex_df160 8 = .ok (.pop, 1) := by decide +kernel
theorem dJ0_checkIndex_df160_9 : decode cJ0_checkIndex_df160 9 = .ok (.return_, 1) := by decide +kernel
theorem dJ1_charAt_3b067_0 : decode cJ1_charAt_3b067 0 = .ok (.iload_n 1, 1) := by decide +kernel
theorem dJ1_charAt_3b067_1 : decode cJ1_charAt_3b067 1 = .ok (.aload_n 0, 1) := by decide +kernel
theorem dJ1_charAt_3b067_2 : decode cJ1_charAt_3b067 2 = .ok (.arraylength, 1) := by decide +kernel
theorem dJ1_charAt_3b067_3 : decode cJ1_charAt_3b067 3 = .ok (.invokestatic 9, 3) := by decide +kernel
theorem dJ1_charAt_3b067_6 : decode cJ1_charAt_3b067 6 = .ok (.aload_n 0, 1) := by decide +kernel
theorem dJ1_charAt_3b067_7 : decode cJ1_charAt_3b067 7 = .ok (.iload_n 1, 1) := by decide +kernel
theorem dJ1_charAt_3b067_8 : decode cJ1_charAt_3b067 8 = .ok (.baload, 1) := by decide +kernel
theorem dJ1_charAt_3b067_9 : decode cJ1_charAt_3b067 9 = .ok (.sipush 255, 3) := by decide +kernel
theorem dJ1_charAt_3b067_12 : decode cJ1_charAt_3b067 12 = .ok (.iand, 1) := by decide +kernel
theorem dJ1_charAt_3b067_13 : decode cJ1_charAt_3b067 13 = .ok (.i2c, 1) := by decide +kernel
theorem dJ1_charAt_3b067_14 : decode cJ1_charAt_3b067 14 = .ok (.ireturn, 1) := by decide +kernel
theorem dJ2_getChar_3b067_0 : decode cJ2_getChar_3b067 0 = .ok (.getstatic 44, 3) := by decide +kernel
theorem dJ2_getChar_3b067_3 : decode cJ2_getChar_3b067 3 = .ok (.ifCond .ne 25, 3) := by decide +kernel
theorem dJ2_getChar_3b067_6 : decode cJ2_getChar_3b067 6 = .ok (.iload_n 1, 1) := by decide +kernel
theorem dJ2_getChar_3b067_7 : decode cJ2_getChar_3b067 7 = .ok (.ifCond .lt 11, 3) := by decide +kernel
theorem dJ2_getChar_3b067_10 : decode cJ2_getChar_3b067 10 = .ok (.iload_n 1, 1) := by decide +kernel
theorem dJ2_getChar_3b067_11 : decode cJ2_getChar_3b067 11 = .ok (.aload_n 0, 1) := by decide +kernel
theorem dJ2_getChar_3b067_12 : decode cJ2_getChar_3b067 12 = .ok (.invokestatic 48, 3) := by decide +kernel
theorem dJ2_getChar_3b067_15 : decode cJ2_getChar_3b067 15 = .ok (.if_icmp .lt 13, 3) := by decide +kernel
theorem dJ2_getChar_3b067_18 : decode cJ2_getChar_3b067 18 = .ok (.new 52, 3) := by decide +kernel
theorem dJ2_getChar_3b067_21 : decode cJ2_getChar_3b067 21 = .ok (.dup, 1) := by decide +kernel
theorem dJ2_getChar_3b067_22 : decode cJ2_getChar_3b067 22 = .ok (.ldc 54, 2) := by decide +kernel
theorem dJ2_getChar_3b067_24 : decode cJ2_getChar_3b067 24 = .ok (.invokespecial 56, 3) := by decide +kernel
theorem dJ2_getChar_3b067_27 : decode cJ2_getChar_3b067 27 = .ok (.athrow, 1) := by decide +kernel
theorem dJ2_getChar_3b067_28 : decode cJ2_getChar_3b067 28 = .ok (.iload_n 1, 1) := by decide +kernel
theorem dJ2_getChar_3b067_29 : decode cJ2_getChar_3b067 29 = .ok (.iconst 1, 1) := by decide +kernel
theorem dJ2_getChar_3b067_30 : decode cJ2_getChar_3b067 30 = .ok (.ishl, 1) := by decide +kernel
theorem dJ2_getChar_3b067_31 : decode cJ2_getChar_3b067 31 = .ok (.istore_n 1, 1) := by decide +kernel
theorem dJ2_getChar_3b067_32 : decode cJ2_getChar_3b067 32 = .ok (.aload_n 0, 1) := by decide +kernel
theorem dJ2_getChar_3b067_33 : decode cJ2_getChar_3b067 33 = .ok (.iload_n 1, 1) := by decide +kernel
theorem dJ2_getChar_3b067_34 : decode cJ2_getChar_3b067 34 = .ok (.iinc 1 1, 3) := by decide +kernel
theorem dJ2_getChar_3b067_37 : decode cJ2_getChar_3b067 37 = .ok (.baload, 1) := by decide +kernel
theorem dJ2_getChar_3b067_38 : decode cJ2_getChar_3b067 38 = .ok (.sipush 255, 3) := by decide +kernel
theorem dJ2_getChar_3b067_41 : decode cJ2_getChar_3b067 41 = .ok (.iand, 1) := by decide +kernel
theorem dJ2_getChar_3b067_42 : decode cJ2_getChar_3b067 42 = .ok (.getstatic 59, 3) := by decide +kernel
theorem dJ2_getChar_3b067_45 : decode cJ2_getChar_3b067 45 = .ok (.ishl, 1) := by decide +kernel
theorem dJ2_getChar_3b067_46 : decode cJ2_getChar_3b067 46 = .ok (.aload_n 0, 1) := by decide +kernel
theorem dJ2_getChar_3b067_47 : decode cJ2_getChar_3b067 47 = .ok (.iload_n 1, 1) := by decide +kernel
theorem dJ2_getChar_3b067_48 : decode cJ2_getChar_3b067 48 = .ok (.baload, 1) := by decide +kernel
theorem dJ2_getChar_3b067_49 : decode cJ2_getChar_3b067 49 = .ok (.sipush 255, 3) := by decide +kernel
theorem dJ2_getChar_3b067_52 : decode cJ2_getChar_3b067 52 = .ok (.iand, 1) := by decide +kernel
theorem dJ2_getChar_3b067_53 : decode cJ2_getChar_3b067 53 = .ok (.getstatic 63, 3) := by decide +kernel
theorem dJ2_getChar_3b067_56 : decode cJ2_getChar_3b067 56 = .ok (.ishl, 1) := by decide +kernel
theorem dJ2_getChar_3b067_57 : decode cJ2_getChar_3b067 57 = .ok (.ior, 1) := by decide +kernel
theorem dJ2_getChar_3b067_58 : decode cJ2_getChar_3b067 58 = .ok (.i2c, 1) := by decide +kernel
theorem dJ2_getChar_3b067_59 : decode cJ2_getChar_3b067 59 = .ok (.ireturn, 1) := by decide +kernel
theorem dJ2_length_9d52b_0 : decode cJ2_length_9d52b 0 = .ok (.aload_n 0, 1) := by decide +kernel
theorem dJ2_length_9d52b_1 : decode cJ2_length_9d52b 1 = .ok (.arraylength, 1) := by decide +kernel
theorem dJ2_length_9d52b_2 : decode cJ2_length_9d52b 2 = .ok (.iconst 1, 1) := by decide +kernel
theorem dJ2_length_9d52b_3 : decode cJ2_length_9d52b 3 = .ok (.ishr, 1) := by decide +kernel
theorem dJ2_length_9d52b_4 : decode cJ2_length_9d52b 4 = .ok (.ireturn, 1) := by decide +kernel
theorem dJ2_charAt_3b067_0 : decode cJ2_charAt_3b067 0 = .ok (.iload_n 1, 1) := by decide +kernel
theorem dJ2_charAt_3b067_1 : decode cJ2_charAt_3b067 1 = .ok (.aload_n 0, 1) := by decide +kernel
theorem dJ2_charAt_3b067_2 : decode cJ2_charAt_3b067 2 = .ok (.invokestatic 67, 3) := by decide +kernel
theorem dJ2_charAt_3b067_5 : decode cJ2_charAt_3b067 5 = .ok (.aload_n 0, 1) := by decide +kernel
theorem dJ2_charAt_3b067_6 : decode cJ2_charAt_3b067 6 = .ok (.iload_n 1, 1) := by decide +kernel
theorem dJ2_charAt_3b067_7 : decode cJ2_charAt_3b067 7 = .ok (.invokestatic 71, 3) := by decide +kernel
theorem dJ2_charAt_3b067_10 : decode cJ2_charAt_3b067 10 = .ok (.ireturn, 1) := by decide +kernel
theorem dJ2_checkIndex_2214a_0 : decode cJ2_checkIndex_2214a 0 = .ok (.iload_n 0, 1) := by decide +kernel
theorem dJ2_checkIndex_2214a_1 : decode cJ2_checkIndex_2214a 1 = .ok (.aload_n 1, 1) := by decide +kernel
theorem dJ2_checkIndex_2214a_2 : decode cJ2_checkIndex_2214a 2 = .ok (.invokestatic 48, 3) := by decide +kernel
theorem dJ2_checkIndex_2214a_5 : decode cJ2_checkIndex_2214a 5 = .ok (.invokestatic 414, 3) := by decide +kernel
theorem dJ2_checkIndex_2214a_8 : decode cJ2_checkIndex_2214a 8 = .ok (.return_, 1) := by decide +kernel
theorem dJ3_checkIndex_8e157_0 : decode cJ3_checkIndex_8e157 0 = .ok (.iload_n 0, 1) := by decide +kernel
theorem dJ3_checkIndex_8e157_1 : decode cJ3_checkIndex_8e157 1 = .ok (.ifCond .lt 8, 3) := by decide +kernel
theorem dJ3_checkIndex_8e157_4 : decode cJ3_checkIndex_8e157 4 = .ok (.iload_n 0, 1) := by decide +kernel
theorem dJ3_checkIndex_8e157_5 : decode cJ3_checkIndex_8e157 5 = .ok (.iload_n 1, 1) := by decide +kernel
theorem dJ3_checkIndex_8e157_6 : decode cJ3_checkIndex_8e157 6 = .ok (.if_icmp .lt 10, 3) := by decide +kernel
theorem dJ3_checkIndex_8e157_9 : decode cJ3_checkIndex_8e157 9 = .ok (.aload_n 2, 1) := by decide +kernel
theorem dJ3_checkIndex_8e157_10 : decode cJ3_checkIndex_8e157 10 = .ok (.iload_n 0, 1) := by decide +kernel
theorem dJ3_checkIndex_8e157_11 : decode cJ3_checkIndex_8e157 11 = .ok (.iload_n 1, 1) := by decide +kernel
theorem dJ3_checkIndex_8e157_12 : decode cJ3_checkIndex_8e157 12 = .ok (.invokestatic 95, 3) := by decide +kernel
theorem dJ3_checkIndex_8e157_15 : decode cJ3_checkIndex_8e157 15 = .ok (.athrow, 1) := by decide +kernel
theorem dJ3_checkIndex_8e157_16 : decode cJ3_checkIndex_8e157 16 = .ok (.iload_n 0, 1) := by decide +kernel
theorem dJ3_checkIndex_8e157_17 : decode cJ3_checkIndex_8e157 17 = .ok (.ireturn, 1) := by decide +kernel
theorem dL_put_0 : decode cL_put 0 = .ok (.aload_n 1, 1) := by decide +kernel
theorem dL_put_1 : decode cL_put 1 = .ok (.iconst 1, 1) := by decide +kernel
theorem dL_put_2 : decode cL_put 2 = .ok (.aload_n 1, 1) := by decide +kernel
theorem dL_put_3 : decode cL_put 3 = .ok (.iconst 0, 1) := by decide +kernel
theorem dL_put_4 : decode cL_put 4 = .ok (.iaload, 1) := by decide +kernel
theorem dL_put_5 : decode cL_put 5 = .ok (.bipush 20, 2) := by decide +kernel
theorem dL_put_7 : decode cL_put 7 = .ok (.irem, 1) := by decide +kernel
theorem dL_put_8 : decode cL_put 8 = .ok (.iconst 4, 1) := by decide +kernel
theorem dL_put_9 : decode cL_put 9 = .ok (.idiv, 1) := by decide +kernel
theorem dL_put_10 : decode cL_put 10 = .ok (.iadd, 1) := by decide +kernel
theorem dL_put_11 : decode cL_put 11 = .ok (.dup2, 1) := by decide +kernel
theorem dL_put_12 : decode cL_put 12 = .ok (.iaload, 1) := by decide +kernel
theorem dL_put_13 : decode cL_put 13 = .ok (.iload_n 2, 1) := by decide +kernel
theorem dL_put_14 : decode cL_put 14 = .ok (.bipush 24, 2) := by decide +kernel
theorem dL_put_16 : decode cL_put 16 = .ok (.bipush 8, 2) := by decide +kernel
theorem dL_put_18 : decode cL_put 18 = .ok (.aload_n 1, 1) := by decide +kernel
theorem dL_put_19 : decode cL_put 19 = .ok (.iconst 0, 1) := by decide +kernel
theorem dL_put_20 : decode cL_put 20 = .ok (.iaload, 1) := by decide +kernel
theorem dL_put_21 : decode cL_put 21 = .ok (.iconst 4, 1) := by decide +kernel
theorem dL_put_22 : decode cL_put 22 = .ok (.irem, 1) := by decide +kernel
theorem dL_put_23 : decode cL_put 23 = .ok (.imul, 1) := by decide +kernel
theorem dL_put_24 : decode cL_put 24 = .ok (.isub, 1) := by decide +kernel
theorem dL_put_25 : decode cL_put 25 = .ok (.ishl, 1) := by decide +kernel
theorem dL_put_26 : decode cL_put 26 = .ok (.ior, 1) := by decide +kernel
theorem dL_put_27 : decode cL_put 27 = .ok (.iastore, 1) := by decide +kernel
theorem dL_put_28 : decode cL_put 28 = .ok (.aload_n 1, 1) := by decide +kernel
theorem dL_put_29 : decode cL_put 29 = .ok (.iconst 0, 1) := by decide +kernel
theorem dL_put_30 : decode cL_put 30 = .ok (.dup2, 1) := by decide +kernel
theorem dL_put_31 : decode cL_put 31 = .ok (.iaload, 1) := by decide +kernel
theorem dL_put_32 : decode cL_put 32 = .ok (.iconst 1, 1) := by decide +kernel
theorem dL_put_33 : decode cL_put 33 = .ok (.iadd, 1) := by decide +kernel
theorem dL_put_34 : decode cL_put 34 = .ok (.iastore, 1) := by decide +kernel
theorem dL_put_35 : decode cL_put 35 = .ok (.aload_n 1, 1) := by decide +kernel
theorem dL_put_36 : decode cL_put 36 = .ok (.iconst 0, 1) := by decide +kernel
theorem dL_put_37 : decode cL_put 37 = .ok (.iaload, 1) := by decide +kernel
theorem dL_put_38 : decode cL_put 38 = .ok (.bipush 20, 2) := by decide +kernel
theorem dL_put_40 : decode cL_put 40 = .ok (.irem, 1) := by decide +kernel
theorem dL_put_41 : decode cL_put 41 = .ok (.ifCond .ne 8, 3) := by decide +kernel
theorem dL_put_44 : decode cL_put 44 = .ok (.aload_n 0, 1) := by decide +kernel
theorem dL_put_45 : decode cL_put 45 = .ok (.aload_n 1, 1) := by decide +kernel
theorem dL_put_46 : decode cL_put 46 = .ok (.invokestatic 7, 3) := by decide +kernel
theorem dL_put_49 : decode cL_put 49 = .ok (.return_, 1) := by decide +kernel
theorem dL_flush_0 : decode cL_flush 0 = .ok (.aload_n 0, 1) := by decide +kernel
theorem dL_flush_1 : decode cL_flush 1 = .ok (.aload_n 1, 1) := by decide +kernel
theorem dL_flush_2 : decode cL_flush 2 = .ok (.iconst 1, 1) := by decide +kernel
theorem dL_flush_3 : decode cL_flush 3 = .ok (.iaload, 1) := by decide +kernel
theorem dL_flush_4 : decode cL_flush 4 = .ok (.aload_n 1, 1) := by decide +kernel
theorem dL_flush_5 : decode cL_flush 5 = .ok (.iconst 2, 1) := by decide +kernel
theorem dL_flush_6 : decode cL_flush 6 = .ok (.iaload, 1) := by decide +kernel
theorem dL_flush_7 : decode cL_flush 7 = .ok (.aload_n 1, 1) := by decide +kernel
theorem dL_flush_8 : decode cL_flush 8 = .ok (.iconst 3, 1) := by decide +kernel
theorem dL_flush_9 : decode cL_flush 9 = .ok (.iaload, 1) := by decide +kernel
theorem dL_flush_10 : decode cL_flush 10 = .ok (.aload_n 1, 1) := by decide +kernel
theorem dL_flush_11 : decode cL_flush 11 = .ok (.iconst 4, 1) := by decide +kernel
theorem dL_flush_12 : decode cL_flush 12 = .ok (.iaload, 1) := by decide +kernel
theorem dL_flush_13 : decode cL_flush 13 = .ok (.aload_n 1, 1) := by decide +kernel
theorem dL_flush_14 : decode cL_flush 14 = .ok (.iconst 5, 1) := by decide +kernel
theorem dL_flush_15 : decode cL_flush 15 = .ok (.iaload, 1) := by decide +kernel
theorem dL_flush_16 : decode cL_flush 16 = .ok (.invokevirtual 13, 3) := by decide +kernel
theorem dL_flush_19 : decode cL_flush 19 = .ok (.pop, 1) := by decide +kernel
theorem dL_flush_20 : decode cL_flush 20 = .ok (.iconst 1, 1) := by decide +kernel
theorem dL_flush_21 : decode cL_flush 21 = .ok (.istore_n 2, 1) := by decide +kernel
theorem dL_flush_22 : decode cL_flush 22 = .ok (.iload_n 2, 1) := by decide +kernel
theorem dL_flush_23 : decode cL_flush 23 = .ok (.bipush 6, 2) := by decide +kernel
theorem dL_flush_25 : decode cL_flush 25 = .ok (.if_icmp .ge 13, 3) := by decide +kernel
theorem dL_flush_28 : decode cL_flush 28 = .ok (.aload_n 1, 1) := by decide +kernel
theorem dL_flush_29 : decode cL_flush 29 = .ok (.iload_n 2, 1) := by decide +kernel
theorem dL_flush_30 : decode cL_flush 30 = .ok (.iconst 0, 1) := by decide +kernel
theorem dL_flush_31 : decode cL_flush 31 = .ok (.iastore, 1) := by decide +kernel
theorem dL_flush_32 : decode cL_flush 32 = .ok (.iinc 2 1, 3) := by decide +kernel
theorem dL_flush_35 : decode cL_flush 35 = .ok (.goto (-13), 3) := by decide +kernel
theorem dL_flush_38 : decode cL_flush 38 = .ok (.return_, 1) := by decide +kernel
theorem dL_loadText_0 : decode cL_loadText 0 = .ok (.aload_n 1, 1) := by decide +kernel
theorem dL_loadText_1 : decode cL_loadText 1 = .ok (.iconst 0, 1) := by decide +kernel
theorem dL_loadText_2 : decode cL_loadText 2 = .ok (.iaload, 1) := by decide +kernel
theorem dL_loadText_3 : decode cL_loadText 3 = .ok (.istore_n 2, 1) := by decide +kernel
theorem dL_loadText_4 : decode cL_loadText 4 = .ok (.iload_n 2, 1) := by decide +kernel
theorem dL_loadText_5 : decode cL_loadText 5 = .ok (.bipush 20, 2) := by decide +kernel
theorem dL_loadText_7 : decode cL_loadText 7 = .ok (.irem, 1) := by decide +kernel
theorem dL_loadText_8 : decode cL_loadText 8 = .ok (.ifCond .le 8, 3) := by decide +kernel
theorem dL_loadText_11 : decode cL_loadText 11 = .ok (.aload_n 0, 1) := by decide +kernel
theorem dL_loadText_12 : decode cL_loadText 12 = .ok (.aload_n 1, 1) := by decide +kernel
theorem dL_loadText_13 : decode cL_loadText 13 = .ok (.invokestatic 7, 3) := by decide +kernel
theorem dL_loadText_16 : decode cL_loadText 16 = .ok (.aload_n 1, 1) := by decide +kernel
theorem dL_loadText_17 : decode cL_loadText 17 = .ok (.iconst 0, 1) := by decide +kernel
theorem dL_loadText_18 : decode cL_loadText 18 = .ok (.iconst 0, 1) := by decide +kernel
theorem dL_loadText_19 : decode cL_loadText 19 = .ok (.iastore, 1) := by decide +kernel
theorem dL_loadText_20 : decode cL_loadText 20 = .ok (.aload_n 0, 1) := by decide +kernel
theorem dL_loadText_21 : decode cL_loadText 21 = .ok (.iload_n 2, 1) := by decide +kernel
theorem dL_loadText_22 : decode cL_loadText 22 = .ok (.invokestatic 19, 3) := by decide +kernel
theorem dL_loadText_25 : decode cL_loadText 25 = .ok (.ireturn, 1) := by decide +kernel
theorem dL_write_0 : decode cL_write 0 = .ok (.iconst 0, 1) := by decide +kernel
theorem dL_write_1 : decode cL_write 1 = .ok (.istore_n 3, 1) := by decide +kernel
theorem dL_write_2 : decode cL_write 2 = .ok (.iload_n 3, 1) := by decide +kernel
theorem dL_write_3 : decode cL_write 3 = .ok (.aload_n 2, 1) := by decide +kernel
theorem dL_write_4 : decode cL_write 4 = .ok (.invokevirtual 23, 3) := by decide +kernel
theorem dL_write_7 : decode cL_write 7 = .ok (.if_icmp .ge 19, 3) := by decide +kernel
theorem dL_write_10 : decode cL_write 10 = .ok (.aload_n 0, 1) := by decide +kernel
theorem dL_write_11 : decode cL_write 11 = .ok (.aload_n 1, 1) := by decide +kernel
theorem dL_write_12 : decode cL_write 12 = .ok (.aload_n 2, 1) := by decide +kernel
theorem dL_write_13 : decode cL_write 13 = .ok (.iload_n 3, 1) := by decide +kernel
theorem dL_write_14 : decode cL_write 14 = .ok (.invokevirtual 29, 3) := by decide +kernel
theorem dL_write_17 : decode cL_write 17 = .ok (.invokestatic 33, 3) := by decide +kernel
theorem dL_write_20 : decode cL_write 20 = .ok (.iinc 3 1, 3) := by decide +kernel
theorem dL_write_23 : decode cL_write 23 = .ok (.goto (-21), 3) := by decide +kernel
theorem dL_write_26 : decode cL_write 26 = .ok (.return_, 1) := by decide +kernel
theorem dL_writeNumber_0 : decode cL_writeNumber 0 = .ok (.iconst 1, 1) := by decide +kernel
theorem dL_writeNumber_1 : decode cL_writeNumber 1 = .ok (.istore_n 3, 1) := by decide +kernel
theorem dL_writeNumber_2 : decode cL_writeNumber 2 = .ok (.iload_n 3, 1) := by decide +kernel
theorem dL_writeNumber_3 : decode cL_writeNumber 3 = .ok (.iload_n 2, 1) := by decide +kernel
theorem dL_writeNumber_4 : decode cL_writeNumber 4 = .ok (.bipush 10, 2) := by decide +kernel
theorem dL_writeNumber_6 : decode cL_writeNumber 6 = .ok (.idiv, 1) := by decide +kernel
theorem dL_writeNumber_7 : decode cL_writeNumber 7 = .ok (.if_icmp .gt 11, 3) := by decide +kernel
theorem dL_writeNumber_10 : decode cL_writeNumber 10 = .ok (.iload_n 3, 1) := by decide +kernel
theorem dL_writeNumber_11 : decode cL_writeNumber 11 = .ok (.bipush 10, 2) := by decide +kernel
theorem dL_writeNumber_13 : decode cL_writeNumber 13 = .ok (.imul, 1) := by decide +kernel
theorem dL_writeNumber_14 : decode cL_writeNumber 14 = .ok (.istore_n 3, 1) := by decide +kernel
theorem dL_writeNumber_15 : decode cL_writeNumber 15 = .ok (.goto (-13), 3) := by decide +kernel
theorem dL_writeNumber_18 : decode cL_writeNumber 18 = .ok (.iload_n 3, 1) := by decide +kernel
theorem dL_writeNumber_19 : decode cL_writeNumber 19 = .ok (.ifCond .le 25, 3) := by decide +kernel
theorem dL_writeNumber_22 : decode cL_writeNumber 22 = .ok (.aload_n 0, 1) := by decide +kernel
theorem dL_writeNumber_23 : decode cL_writeNumber 23 = .ok (.aload_n 1, 1) := by decide +kernel
theorem dL_writeNumber_24 : decode cL_writeNumber 24 = .ok (.bipush 48, 2) := by decide +kernel
theorem dL_writeNumber_26 : decode cL_writeNumber 26 = .ok (.iload_n 2, 1) := by decide +kernel
theorem dL_writeNumber_27 : decode cL_writeNumber 27 = .ok (.iload_n 3, 1) := by decide +kernel
theorem dL_writeNumber_28 : decode cL_writeNumber 28 = .ok (.idiv, 1) := by decide +kernel
theorem dL_writeNumber_29 : decode cL_writeNumber 29 = .ok (.bipush 10, 2) := by decide +kernel
theorem dL_writeNumber_31 : decode cL_writeNumber 31 = .ok (.irem, 1) := by decide +kernel
theorem dL_writeNumber_32 : decode cL_writeNumber 32 = .ok (.iadd, 1) := by decide +kernel
theorem dL_writeNumber_33 : decode cL_writeNumber 33 = .ok (.invokestatic 33, 3) := by decide +kernel
theorem dL_writeNumber_36 : decode cL_writeNumber 36 = .ok (.iload_n 3, 1) := by decide +kernel
theorem dL_writeNumber_37 : decode cL_writeNumber 37 = .ok (.bipush 10, 2) := by decide +kernel
theorem dL_writeNumber_39 : decode cL_writeNumber 39 = .ok (.idiv, 1) := by decide +kernel
theorem dL_writeNumber_40 : decode cL_writeNumber 40 = .ok (.istore_n 3, 1) := by decide +kernel
theorem dL_writeNumber_41 : decode cL_writeNumber 41 = .ok (.goto (-23), 3) := by decide +kernel
theorem dL_writeNumber_44 : decode cL_writeNumber 44 = .ok (.return_, 1) := by decide +kernel
theorem dL_load_0 : decode cL_load 0 = .ok (.aload_n 0, 1) := by decide +kernel
theorem dL_load_1 : decode cL_load 1 = .ok (.iload_n 1, 1) := by decide +kernel
theorem dL_load_2 : decode cL_load 2 = .ok (.invokevirtual 37, 3) := by decide +kernel
theorem dL_load_5 : decode cL_load 5 = .ok (.ireturn, 1) := by decide +kernel
theorem dL_load_6 : decode cL_load 6 = .ok (.astore_n 2, 1) := by decide +kernel
theorem dL_load_7 : decode cL_load 7 = .ok (.ldc 42, 2) := by decide +kernel
theorem dL_load_9 : decode cL_load 9 = .ok (.ireturn, 1) := by decide +kernel
theorem dL_state_0 : decode cL_state 0 = .ok (.aload_n 0, 1) := by decide +kernel
theorem dL_state_1 : decode cL_state 1 = .ok (.iload_n 1, 1) := by decide +kernel
theorem dL_state_2 : decode cL_state 2 = .ok (.invokevirtual 43, 3) := by decide +kernel
theorem dL_state_5 : decode cL_state 5 = .ok (.ireturn, 1) := by decide +kernel
theorem dL_state_6 : decode cL_state 6 = .ok (.astore_n 2, 1) := by decide +kernel
theorem dL_state_7 : decode cL_state 7 = .ok (.ldc 42, 2) := by decide +kernel
theorem dL_state_9 : decode cL_state 9 = .ok (.ireturn, 1) := by decide +kernel
theorem dL_find_0 : decode cL_find 0 = .ok (.aload_n 0, 1) := by decide +kernel
theorem dL_find_1 : decode cL_find 1 = .ok (.iload_n 1, 1) := by decide +kernel
theorem dL_find_2 : decode cL_find 2 = .ok (.invokevirtual 46, 3) := by decide +kernel
theorem dL_find_5 : decode cL_find 5 = .ok (.ireturn, 1) := by decide +kernel
theorem dL_find_6 : decode cL_find 6 = .ok (.astore_n 2, 1) := by decide +kernel
theorem dL_find_7 : decode cL_find 7 = .ok (.ldc 42, 2) := by decide +kernel
theorem dL_find_9 : decode cL_find 9 = .ok (.ireturn, 1) := by decide +kernel
theorem dL_gate_0 : decode cL_gate 0 = .ok (.aload_n 0, 1) := by decide +kernel
theorem dL_gate_1 : decode cL_gate 1 = .ok (.iload_n 1, 1) := by decide +kernel
theorem dL_gate_2 : decode cL_gate 2 = .ok (.iload_n 2, 1) := by decide +kernel
theorem dL_gate_3 : decode cL_gate 3 = .ok (.invokevirtual 49, 3) := by decide +kernel
theorem dL_gate_6 : decode cL_gate 6 = .ok (.ireturn, 1) := by decide +kernel
theorem dL_gate_7 : decode cL_gate 7 = .ok (.astore_n 3, 1) := by decide +kernel
theorem dL_gate_8 : decode cL_gate 8 = .ok (.ldc 55, 2) := by decide +kernel
theorem dL_gate_10 : decode cL_gate 10 = .ok (.ireturn, 1) := by decide +kernel
theorem dL_gate_11 : decode cL_gate 11 = .ok (.astore_n 3, 1) := by decide +kernel
theorem dL_gate_12 : decode cL_gate 12 = .ok (.ldc 42, 2) := by decide +kernel
theorem dL_gate_14 : decode cL_gate 14 = .ok (.ireturn, 1) := by decide +kernel
theorem dL_card_0 : decode cL_card 0 = .ok (.aload_n 0, 1) := by decide +kernel
theorem dL_card_1 : decode cL_card 1 = .ok (.iload_n 1, 1) := by decide +kernel
theorem dL_card_2 : decode cL_card 2 = .ok (.iload_n 2, 1) := by decide +kernel
theorem dL_card_3 : decode cL_card 3 = .ok (.invokevirtual 56, 3) := by decide +kernel
theorem dL_card_6 : decode cL_card 6 = .ok (.ireturn, 1) := by decide +kernel
theorem dL_card_7 : decode cL_card 7 = .ok (.astore_n 3, 1) := by decide +kernel
theorem dL_card_8 : decode cL_card 8 = .ok (.ldc 55, 2) := by decide +kernel
theorem dL_card_10 : decode cL_card 10 = .ok (.ireturn, 1) := by decide +kernel
theorem dL_card_11 : decode cL_card 11 = .ok (.astore_n 3, 1) := by decide +kernel
theorem dL_card_12 : decode cL_card 12 = .ok (.ldc 42, 2) := by decide +kernel
theorem dL_card_14 : decode cL_card 14 = .ok (.ireturn, 1) := by decide +kernel
theorem dL_inLine_0 : decode cL_inLine 0 = .ok (.aload_n 0, 1) := by decide +kernel
theorem dL_inLine_1 : decode cL_inLine 1 = .ok (.iload_n 1, 1) := by decide +kernel
theorem dL_inLine_2 : decode cL_inLine 2 = .ok (.iload_n 2, 1) := by decide +kernel
theorem dL_inLine_3 : decode cL_inLine 3 = .ok (.iload_n 3, 1) := by decide +kernel
theorem dL_inLine_4 : decode cL_inLine 4 = .ok (.invokevirtual 59, 3) := by decide +kernel
theorem dL_inLine_7 : decode cL_inLine 7 = .ok (.ireturn, 1) := by decide +kernel
theorem dL_inLine_8 : decode cL_inLine 8 = .ok (.astore 4, 2) := by decide +kernel
theorem dL_inLine_10 : decode cL_inLine 10 = .ok (.ldc 55, 2) := by decide +kernel
theorem dL_inLine_12 : decode cL_inLine 12 = .ok (.ireturn, 1) := by decide +kernel
theorem dL_inLine_13 : decode cL_inLine 13 = .ok (.astore 4, 2) := by decide +kernel
theorem dL_inLine_15 : decode cL_inLine 15 = .ok (.ldc 42, 2) := by decide +kernel
theorem dL_inLine_17 : decode cL_inLine 17 = .ok (.ireturn, 1) := by decide +kernel
theorem dL_inLine_18 : decode cL_inLine 18 = .ok (.astore 4, 2) := by decide +kernel
theorem dL_inLine_20 : decode cL_inLine 20 = .ok (.ldc 65, 2) := by decide +kernel
theorem dL_inLine_22 : decode cL_inLine 22 = .ok (.ireturn, 1) := by decide +kernel
theorem dL_why_0 : decode cL_why 0 = .ok (.aload_n 0, 1) := by decide +kernel
theorem dL_why_1 : decode cL_why 1 = .ok (.iload_n 1, 1) := by decide +kernel
theorem dL_why_2 : decode cL_why 2 = .ok (.iload_n 2, 1) := by decide +kernel
theorem dL_why_3 : decode cL_why 3 = .ok (.invokevirtual 66, 3) := by decide +kernel
theorem dL_why_6 : decode cL_why 6 = .ok (.ireturn, 1) := by decide +kernel
theorem dL_why_7 : decode cL_why 7 = .ok (.astore_n 3, 1) := by decide +kernel
theorem dL_why_8 : decode cL_why 8 = .ok (.ldc 55, 2) := by decide +kernel
theorem dL_why_10 : decode cL_why 10 = .ok (.ireturn, 1) := by decide +kernel
theorem dL_why_11 : decode cL_why 11 = .ok (.astore_n 3, 1) := by decide +kernel
theorem dL_why_12 : decode cL_why 12 = .ok (.ldc 42, 2) := by decide +kernel
theorem dL_why_14 : decode cL_why 14 = .ok (.ireturn, 1) := by decide +kernel
theorem dL_whyNotJoin_0 : decode cL_whyNotJoin 0 = .ok (.aload_n 0, 1) := by decide +kernel
theorem dL_whyNotJoin_1 : decode cL_whyNotJoin 1 = .ok (.iload_n 1, 1) := by decide +kernel
theorem dL_whyNotJoin_2 : decode cL_whyNotJoin 2 = .ok (.iload_n 2, 1) := by decide +kernel
theorem dL_whyNotJoin_3 : decode cL_whyNotJoin 3 = .ok (.iload_n 3, 1) := by decide +kernel
theorem dL_whyNotJoin_4 : decode cL_whyNotJoin 4 = .ok (.invokevirtual 69, 3) := by decide +kernel
theorem dL_whyNotJoin_7 : decode cL_whyNotJoin 7 = .ok (.ireturn, 1) := by decide +kernel
theorem dL_whyNotJoin_8 : decode cL_whyNotJoin 8 = .ok (.astore 4, 2) := by decide +kernel
theorem dL_whyNotJoin_10 : decode cL_whyNotJoin 10 = .ok (.ldc 55, 2) := by decide +kernel
theorem dL_whyNotJoin_12 : decode cL_whyNotJoin 12 = .ok (.ireturn, 1) := by decide +kernel
theorem dL_whyNotJoin_13 : decode cL_whyNotJoin 13 = .ok (.astore 4, 2) := by decide +kernel
theorem dL_whyNotJoin_15 : decode cL_whyNotJoin 15 = .ok (.ldc 42, 2) := by decide +kernel
theorem dL_whyNotJoin_17 : decode cL_whyNotJoin 17 = .ok (.ireturn, 1) := by decide +kernel
theorem dL_bestGate_0 : decode cL_bestGate 0 = .ok (.aload_n 0, 1) := by decide +kernel
theorem dL_bestGate_1 : decode cL_bestGate 1 = .ok (.iload_n 1, 1) := by decide +kernel
theorem dL_bestGate_2 : decode cL_bestGate 2 = .ok (.invokevirtual 72, 3) := by decide +kernel
theorem dL_bestGate_5 : decode cL_bestGate 5 = .ok (.ireturn, 1) := by decide +kernel
theorem dL_bestGate_6 : decode cL_bestGate 6 = .ok (.astore_n 2, 1) := by decide +kernel
theorem dL_bestGate_7 : decode cL_bestGate 7 = .ok (.ldc 42, 2) := by decide +kernel
theorem dL_bestGate_9 : decode cL_bestGate 9 = .ok (.ireturn, 1) := by decide +kernel
theorem dL_nextSide_0 : decode cL_nextSide 0 = .ok (.aload_n 0, 1) := by decide +kernel
theorem dL_nextSide_1 : decode cL_nextSide 1 = .ok (.iload_n 1, 1) := by decide +kernel
theorem dL_nextSide_2 : decode cL_nextSide 2 = .ok (.invokevirtual 75, 3) := by decide +kernel
theorem dL_nextSide_5 : decode cL_nextSide 5 = .ok (.ireturn, 1) := by decide +kernel
theorem dL_nextSide_6 : decode cL_nextSide 6 = .ok (.astore_n 2, 1) := by decide +kernel
theorem dL_nextSide_7 : decode cL_nextSide 7 = .ok (.ldc 55, 2) := by decide +kernel
theorem dL_nextSide_9 : decode cL_nextSide 9 = .ok (.ireturn, 1) := by decide +kernel
theorem dL_throughIn_0 : decode cL_throughIn 0 = .ok (.aload_n 0, 1) := by decide +kernel
theorem dL_throughIn_1 : decode cL_throughIn 1 = .ok (.iload_n 1, 1) := by decide +kernel
theorem dL_throughIn_2 : decode cL_throughIn 2 = .ok (.invokevirtual 78, 3) := by decide +kernel
theorem dL_throughIn_5 : decode cL_throughIn 5 = .ok (.ireturn, 1) := by decide +kernel
theorem dL_throughIn_6 : decode cL_throughIn 6 = .ok (.astore_n 2, 1) := by decide +kernel
theorem dL_throughIn_7 : decode cL_throughIn 7 = .ok (.ldc 55, 2) := by decide +kernel
theorem dL_throughIn_9 : decode cL_throughIn 9 = .ok (.ireturn, 1) := by decide +kernel
theorem dL_insideIn_0 : decode cL_insideIn 0 = .ok (.aload_n 0, 1) := by decide +kernel
theorem dL_insideIn_1 : decode cL_insideIn 1 = .ok (.iload_n 1, 1) := by decide +kernel
theorem dL_insideIn_2 : decode cL_insideIn 2 = .ok (.invokevirtual 81, 3) := by decide +kernel
theorem dL_insideIn_5 : decode cL_insideIn 5 = .ok (.ireturn, 1) := by decide +kernel
theorem dL_insideIn_6 : decode cL_insideIn 6 = .ok (.astore_n 2, 1) := by decide +kernel
theorem dL_insideIn_7 : decode cL_insideIn 7 = .ok (.ldc 42, 2) := by decide +kernel
theorem dL_insideIn_9 : decode cL_insideIn 9 = .ok (.ireturn, 1) := by decide +kernel
theorem dL_followersIn_0 : decode cL_followersIn 0 = .ok (.aload_n 0, 1) := by decide +kernel
theorem dL_followersIn_1 : decode cL_followersIn 1 = .ok (.iload_n 1, 1) := by decide +kernel
theorem dL_followersIn_2 : decode cL_followersIn 2 = .ok (.invokevirtual 84, 3) := by decide +kernel
theorem dL_followersIn_5 : decode cL_followersIn 5 = .ok (.ireturn, 1) := by decide +kernel
theorem dL_followersIn_6 : decode cL_followersIn 6 = .ok (.astore_n 2, 1) := by decide +kernel
theorem dL_followersIn_7 : decode cL_followersIn 7 = .ok (.ldc 42, 2) := by decide +kernel
theorem dL_followersIn_9 : decode cL_followersIn 9 = .ok (.ireturn, 1) := by decide +kernel
theorem dL_ranked_0 : decode cL_ranked 0 = .ok (.aload_n 0, 1) := by decide +kernel
theorem dL_ranked_1 : decode cL_ranked 1 = .ok (.iload_n 1, 1) := by decide +kernel
theorem dL_ranked_2 : decode cL_ranked 2 = .ok (.invokevirtual 87, 3) := by decide +kernel
theorem dL_ranked_5 : decode cL_ranked 5 = .ok (.ireturn, 1) := by decide +kernel
theorem dL_ranked_6 : decode cL_ranked 6 = .ok (.astore_n 2, 1) := by decide +kernel
theorem dL_ranked_7 : decode cL_ranked 7 = .ok (.ldc 65, 2) := by decide +kernel
theorem dL_ranked_9 : decode cL_ranked 9 = .ok (.ireturn, 1) := by decide +kernel
theorem dL_join_0 : decode cL_join 0 = .ok (.aload_n 0, 1) := by decide +kernel
theorem dL_join_1 : decode cL_join 1 = .ok (.iload_n 1, 1) := by decide +kernel
theorem dL_join_2 : decode cL_join 2 = .ok (.iload_n 2, 1) := by decide +kernel
theorem dL_join_3 : decode cL_join 3 = .ok (.iload_n 3, 1) := by decide +kernel
theorem dL_join_4 : decode cL_join 4 = .ok (.invokevirtual 90, 3) := by decide +kernel
theorem dL_join_7 : decode cL_join 7 = .ok (.ireturn, 1) := by decide +kernel
theorem dL_join_8 : decode cL_join 8 = .ok (.astore 4, 2) := by decide +kernel
theorem dL_join_10 : decode cL_join 10 = .ok (.ldc 55, 2) := by decide +kernel
theorem dL_join_12 : decode cL_join 12 = .ok (.ireturn, 1) := by decide +kernel
theorem dL_join_13 : decode cL_join 13 = .ok (.astore 4, 2) := by decide +kernel
theorem dL_join_15 : decode cL_join 15 = .ok (.ldc 42, 2) := by decide +kernel
theorem dL_join_17 : decode cL_join 17 = .ok (.ireturn, 1) := by decide +kernel
theorem dL_leave_0 : decode cL_leave 0 = .ok (.aload_n 0, 1) := by decide +kernel
theorem dL_leave_1 : decode cL_leave 1 = .ok (.iload_n 1, 1) := by decide +kernel
theorem dL_leave_2 : decode cL_leave 2 = .ok (.iload_n 2, 1) := by decide +kernel
theorem dL_leave_3 : decode cL_leave 3 = .ok (.iload_n 3, 1) := by decide +kernel
theorem dL_leave_4 : decode cL_leave 4 = .ok (.invokevirtual 93, 3) := by decide +kernel
theorem dL_leave_7 : decode cL_leave 7 = .ok (.ireturn, 1) := by decide +kernel
theorem dL_leave_8 : decode cL_leave 8 = .ok (.astore 4, 2) := by decide +kernel
theorem dL_leave_10 : decode cL_leave 10 = .ok (.ldc 55, 2) := by decide +kernel
theorem dL_leave_12 : decode cL_leave 12 = .ok (.ireturn, 1) := by decide +kernel
theorem dL_leave_13 : decode cL_leave 13 = .ok (.astore 4, 2) := by decide +kernel
theorem dL_leave_15 : decode cL_leave 15 = .ok (.ldc 42, 2) := by decide +kernel
theorem dL_leave_17 : decode cL_leave 17 = .ok (.ireturn, 1) := by decide +kernel
theorem dL_leave_18 : decode cL_leave 18 = .ok (.astore 4, 2) := by decide +kernel
theorem dL_leave_20 : decode cL_leave 20 = .ok (.ldc 65, 2) := by decide +kernel
theorem dL_leave_22 : decode cL_leave 22 = .ok (.ireturn, 1) := by decide +kernel
theorem dL_leave_23 : decode cL_leave 23 = .ok (.astore 4, 2) := by decide +kernel
theorem dL_leave_25 : decode cL_leave 25 = .ok (.ldc 98, 2) := by decide +kernel
theorem dL_leave_27 : decode cL_leave 27 = .ok (.ireturn, 1) := by decide +kernel
theorem dL_list_0 : decode cL_list 0 = .ok (.aload_n 0, 1) := by decide +kernel
theorem dL_list_1 : decode cL_list 1 = .ok (.iload_n 1, 1) := by decide +kernel
theorem dL_list_2 : decode cL_list 2 = .ok (.iload_n 2, 1) := by decide +kernel
theorem dL_list_3 : decode cL_list 3 = .ok (.invokevirtual 99, 3) := by decide +kernel
theorem dL_list_6 : decode cL_list 6 = .ok (.ireturn, 1) := by decide +kernel
theorem dL_list_7 : decode cL_list 7 = .ok (.astore_n 3, 1) := by decide +kernel
theorem dL_list_8 : decode cL_list 8 = .ok (.ldc 55, 2) := by decide +kernel
theorem dL_list_10 : decode cL_list 10 = .ok (.ireturn, 1) := by decide +kernel
theorem dL_charge_0 : decode cL_charge 0 = .ok (.aload_n 0, 1) := by decide +kernel
theorem dL_charge_1 : decode cL_charge 1 = .ok (.iload_n 1, 1) := by decide +kernel
theorem dL_charge_2 : decode cL_charge 2 = .ok (.iload_n 2, 1) := by decide +kernel
theorem dL_charge_3 : decode cL_charge 3 = .ok (.invokevirtual 103, 3) := by decide +kernel
theorem dL_charge_6 : decode cL_charge 6 = .ok (.ireturn, 1) := by decide +kernel
theorem dL_charge_7 : decode cL_charge 7 = .ok (.astore_n 3, 1) := by decide +kernel
theorem dL_charge_8 : decode cL_charge 8 = .ok (.ldc 55, 2) := by decide +kernel
theorem dL_charge_10 : decode cL_charge 10 = .ok (.ireturn, 1) := by decide +kernel
theorem dL_charge_11 : decode cL_charge 11 = .ok (.astore_n 3, 1) := by decide +kernel
theorem dL_charge_12 : decode cL_charge 12 = .ok (.ldc 42, 2) := by decide +kernel
theorem dL_charge_14 : decode cL_charge 14 = .ok (.ireturn, 1) := by decide +kernel
theorem dL_charge_15 : decode cL_charge 15 = .ok (.astore_n 3, 1) := by decide +kernel
theorem dL_charge_16 : decode cL_charge 16 = .ok (.ldc 98, 2) := by decide +kernel
theorem dL_charge_18 : decode cL_charge 18 = .ok (.ireturn, 1) := by decide +kernel
theorem dL_mode_0 : decode cL_mode 0 = .ok (.aload_n 0, 1) := by decide +kernel
theorem dL_mode_1 : decode cL_mode 1 = .ok (.iload_n 1, 1) := by decide +kernel
theorem dL_mode_2 : decode cL_mode 2 = .ok (.iload_n 2, 1) := by decide +kernel
theorem dL_mode_3 : decode cL_mode 3 = .ok (.invokevirtual 106, 3) := by decide +kernel
theorem dL_mode_6 : decode cL_mode 6 = .ok (.ireturn, 1) := by decide +kernel
theorem dL_mode_7 : decode cL_mode 7 = .ok (.astore_n 3, 1) := by decide +kernel
theorem dL_mode_8 : decode cL_mode 8 = .ok (.ldc 55, 2) := by decide +kernel
theorem dL_mode_10 : decode cL_mode 10 = .ok (.ireturn, 1) := by decide +kernel
theorem dL_mode_11 : decode cL_mode 11 = .ok (.astore_n 3, 1) := by decide +kernel
theorem dL_mode_12 : decode cL_mode 12 = .ok (.ldc 42, 2) := by decide +kernel
theorem dL_mode_14 : decode cL_mode 14 = .ok (.ireturn, 1) := by decide +kernel
theorem dL_mode_15 : decode cL_mode 15 = .ok (.astore_n 3, 1) := by decide +kernel
theorem dL_mode_16 : decode cL_mode 16 = .ok (.ldc 98, 2) := by decide +kernel
theorem dL_mode_18 : decode cL_mode 18 = .ok (.ireturn, 1) := by decide +kernel
theorem dL_key_0 : decode cL_key 0 = .ok (.aload_n 0, 1) := by decide +kernel
theorem dL_key_1 : decode cL_key 1 = .ok (.iload_n 1, 1) := by decide +kernel
theorem dL_key_2 : decode cL_key 2 = .ok (.invokevirtual 109, 3) := by decide +kernel
theorem dL_key_5 : decode cL_key 5 = .ok (.ireturn, 1) := by decide +kernel
theorem dL_key_6 : decode cL_key 6 = .ok (.astore_n 2, 1) := by decide +kernel
theorem dL_key_7 : decode cL_key 7 = .ok (.ldc 42, 2) := by decide +kernel
theorem dL_key_9 : decode cL_key 9 = .ok (.ireturn, 1) := by decide +kernel
theorem dL_tick_0 : decode cL_tick 0 = .ok (.aload_n 0, 1) := by decide +kernel
theorem dL_tick_1 : decode cL_tick 1 = .ok (.iload_n 1, 1) := by decide +kernel
theorem dL_tick_2 : decode cL_tick 2 = .ok (.invokevirtual 112, 3) := by decide +kernel
theorem dL_tick_5 : decode cL_tick 5 = .ok (.ireturn, 1) := by decide +kernel
theorem dL_tick_6 : decode cL_tick 6 = .ok (.astore_n 2, 1) := by decide +kernel
theorem dL_tick_7 : decode cL_tick 7 = .ok (.ldc 42, 2) := by decide +kernel
theorem dL_tick_9 : decode cL_tick 9 = .ok (.ireturn, 1) := by decide +kernel
theorem dL_randomRow_0 : decode cL_randomRow 0 = .ok (.new 115, 3) := by decide +kernel
theorem dL_randomRow_3 : decode cL_randomRow 3 = .ok (.dup, 1) := by decide +kernel
theorem dL_randomRow_4 : decode cL_randomRow 4 = .ok (.invokespecial 117, 3) := by decide +kernel
theorem dL_randomRow_7 : decode cL_randomRow 7 = .ok (.astore_n 3, 1) := by decide +kernel
theorem dL_randomRow_8 : decode cL_randomRow 8 = .ok (.aload_n 3, 1) := by decide +kernel
theorem dL_randomRow_9 : decode cL_randomRow 9 = .ok (.iconst 1, 1) := by decide +kernel
theorem dL_randomRow_10 : decode cL_randomRow 10 = .ok (.aload_n 2, 1) := by decide +kernel
theorem dL_randomRow_11 : decode cL_randomRow 11 = .ok (.iconst 5, 1) := by decide +kernel
theorem dL_randomRow_12 : decode cL_randomRow 12 = .ok (.invokevirtual 118, 3) := by decide +kernel
theorem dL_randomRow_15 : decode cL_randomRow 15 = .ok (.iadd, 1) := by decide +kernel
theorem dL_randomRow_16 : decode cL_randomRow 16 = .ok (.putfield 123, 3) := by decide +kernel
theorem dL_randomRow_19 : decode cL_randomRow 19 = .ok (.aload_n 3, 1) := by decide +kernel
theorem dL_randomRow_20 : decode cL_randomRow 20 = .ok (.iconst 1, 1) := by decide +kernel
theorem dL_randomRow_21 : decode cL_randomRow 21 = .ok (.aload_n 2, 1) := by decide +kernel
theorem dL_randomRow_22 : decode cL_randomRow 22 = .ok (.iconst 4, 1) := by decide +kernel
theorem dL_randomRow_23 : decode cL_randomRow 23 = .ok (.invokevirtual 118, 3) := by decide +kernel
theorem dL_randomRow_26 : decode cL_randomRow 26 = .ok (.iadd, 1) := by decide +kernel
theorem dL_randomRow_27 : decode cL_randomRow 27 = .ok (.putfield 127, 3) := by decide +kernel
theorem dL_randomRow_30 : decode cL_randomRow 30 = .ok (.aload_n 0, 1) := by decide +kernel
theorem dL_randomRow_31 : decode cL_randomRow 31 = .ok (.aload_n 1, 1) := by decide +kernel
theorem dL_randomRow_32 : decode cL_randomRow 32 = .ok (.ldc 130, 2) := by decide +kernel
theorem dL_randomRow_34 : decode cL_randomRow 34 = .ok (.invokestatic 132, 3) := by decide +kernel
theorem dL_randomRow_37 : decode cL_randomRow 37 = .ok (.aload_n 0, 1) := by decide +kernel
theorem dL_randomRow_38 : decode cL_randomRow 38 = .ok (.aload_n 1, 1) := by decide +kernel
theorem dL_randomRow_39 : decode cL_randomRow 39 = .ok (.aload_n 3, 1) := by decide +kernel
theorem dL_randomRow_40 : decode cL_randomRow 40 = .ok (.getfield 123, 3) := by decide +kernel
theorem dL_randomRow_43 : decode cL_randomRow 43 = .ok (.invokestatic 136, 3) := by decide +kernel
theorem dL_randomRow_46 : decode cL_randomRow 46 = .ok (.aload_n 0, 1) := by decide +kernel
theorem dL_randomRow_47 : decode cL_randomRow 47 = .ok (.aload_n 1, 1) := by decide +kernel
theorem dL_randomRow_48 : decode cL_randomRow 48 = .ok (.ldc 139, 2) := by decide +kernel
theorem dL_randomRow_50 : decode cL_randomRow 50 = .ok (.invokestatic 132, 3) := by decide +kernel
theorem dL_randomRow_53 : decode cL_randomRow 53 = .ok (.aload_n 0, 1) := by decide +kernel
theorem dL_randomRow_54 : decode cL_randomRow 54 = .ok (.aload_n 1, 1) := by decide +kernel
theorem dL_randomRow_55 : decode cL_randomRow 55 = .ok (.aload_n 3, 1) := by decide +kernel
theorem dL_randomRow_56 : decode cL_randomRow 56 = .ok (.getfield 127, 3) := by decide +kernel
theorem dL_randomRow_59 : decode cL_randomRow 59 = .ok (.invokestatic 136, 3) := by decide +kernel
theorem dL_randomRow_62 : decode cL_randomRow 62 = .ok (.aload_n 0, 1) := by decide +kernel
theorem dL_randomRow_63 : decode cL_randomRow 63 = .ok (.aload_n 1, 1) := by decide +kernel
theorem dL_randomRow_64 : decode cL_randomRow 64 = .ok (.ldc 141, 2) := by decide +kernel
theorem dL_randomRow_66 : decode cL_randomRow 66 = .ok (.invokestatic 132, 3) := by decide +kernel
theorem dL_randomRow_69 : decode cL_randomRow 69 = .ok (.aload_n 3, 1) := by decide +kernel
theorem dL_randomRow_70 : decode cL_randomRow 70 = .ok (.iconst 1, 1) := by decide +kernel
theorem dL_randomRow_71 : decode cL_randomRow 71 = .ok (.aload_n 2, 1) := by decide +kernel
theorem dL_randomRow_72 : decode cL_randomRow 72 = .ok (.iconst 4, 1) := by decide +kernel
theorem dL_randomRow_73 : decode cL_randomRow 73 = .ok (.invokevirtual 118, 3) := by decide +kernel
theorem dL_randomRow_76 : decode cL_randomRow 76 = .ok (.iadd, 1) := by decide +kernel
theorem dL_randomRow_77 : decode cL_randomRow 77 = .ok (.putfield 143, 3) := by decide +kernel
theorem dL_randomRow_80 : decode cL_randomRow 80 = .ok (.iconst 0, 1) := by decide +kernel
theorem dL_randomRow_81 : decode cL_randomRow 81 = .ok (.istore 4, 2) := by decide +kernel
theorem dL_randomRow_83 : decode cL_randomRow 83 = .ok (.iload 4, 2) := by decide +kernel
theorem dL_randomRow_85 : decode cL_randomRow 85 = .ok (.aload_n 3, 1) := by decide +kernel
theorem dL_randomRow_86 : decode cL_randomRow 86 = .ok (.getfield 143, 3) := by decide +kernel
theorem dL_randomRow_89 : decode cL_randomRow 89 = .ok (.if_icmp .ge 84, 3) := by decide +kernel
theorem dL_randomRow_92 : decode cL_randomRow 92 = .ok (.aload_n 3, 1) := by decide +kernel
theorem dL_randomRow_93 : decode cL_randomRow 93 = .ok (.getfield 146, 3) := by decide +kernel
theorem dL_randomRow_96 : decode cL_randomRow 96 = .ok (.iload 4, 2) := by decide +kernel
theorem dL_randomRow_98 : decode cL_randomRow 98 = .ok (.new 150, 3) := by decide +kernel
theorem dL_randomRow_101 : decode cL_randomRow 101 = .ok (.dup, 1) := by decide +kernel
theorem dL_randomRow_102 : decode cL_randomRow 102 = .ok (.aload_n 2, 1) := by decide +kernel
theorem dL_randomRow_103 : decode cL_randomRow 103 = .ok (.iconst 2, 1) := by decide +kernel
theorem dL_randomRow_104 : decode cL_randomRow 104 = .ok (.invokevirtual 118, 3) := by decide +kernel
theorem dL_randomRow_107 : decode cL_randomRow 107 = .ok (.ifCond .ne 7, 3) := by decide +kernel
theorem dL_randomRow_110 : decode cL_randomRow 110 = .ok (.iconst 2, 1) := by decide +kernel
theorem dL_randomRow_111 : decode cL_randomRow 111 = .ok (.goto 8, 3) := by decide +kernel
theorem dL_randomRow_114 : decode cL_randomRow 114 = .ok (.aload_n 2, 1) := by decide +kernel
theorem dL_randomRow_115 : decode cL_randomRow 115 = .ok (.iconst 3, 1) := by decide +kernel
theorem dL_randomRow_116 : decode cL_randomRow 116 = .ok (.invokevirtual 118, 3) := by decide +kernel
theorem dL_randomRow_119 : decode cL_randomRow 119 = .ok (.invokespecial 152, 3) := by decide +kernel
theorem dL_randomRow_122 : decode cL_randomRow 122 = .ok (.aastore, 1) := by decide +kernel
theorem dL_randomRow_123 : decode cL_randomRow 123 = .ok (.aload_n 0, 1) := by decide +kernel
theorem dL_randomRow_124 : decode cL_randomRow 124 = .ok (.aload_n 1, 1) := by decide +kernel
theorem dL_randomRow_125 : decode cL_randomRow 125 = .ok (.aload_n 3, 1) := by decide +kernel
theorem dL_randomRow_126 : decode cL_randomRow 126 = .ok (.getfield 146, 3) := by decide +kernel
theorem dL_randomRow_129 : decode cL_randomRow 129 = .ok (.iload 4, 2) := by decide +kernel
theorem dL_randomRow_131 : decode cL_randomRow 131 = .ok (.aaload, 1) := by decide +kernel
theorem dL_randomRow_132 : decode cL_randomRow 132 = .ok (.getfield 155, 3) := by decide +kernel
theorem dL_randomRow_135 : decode cL_randomRow 135 = .ok (.ifCond .ne 8, 3) := by decide +kernel
theorem dL_randomRow_138 : decode cL_randomRow 138 = .ok (.ldc 157, 2) := by decide +kernel
theorem dL_randomRow_140 : decode cL_randomRow 140 = .ok (.goto 24, 3) := by decide +kernel
theorem dL_randomRow_143 : decode cL_randomRow 143 = .ok (.aload_n 3, 1) := by decide +kernel
theorem dL_randomRow_144 : decode cL_randomRow 144 = .ok (.getfield 146, 3) := by decide +kernel
theorem dL_randomRow_147 : decode cL_randomRow 147 = .ok (.iload 4, 2) := by decide +kernel
theorem dL_randomRow_149 : decode cL_randomRow 149 = .ok (.aaload, 1) := by decide +kernel
theorem dL_randomRow_150 : decode cL_randomRow 150 = .ok (.getfield 155, 3) := by decide +kernel
theorem dL_randomRow_153 : decode cL_randomRow 153 = .ok (.iconst 1, 1) := by decide +kernel
theorem dL_randomRow_154 : decode cL_randomRow 154 = .ok (.if_icmp .ne 8, 3) := by decide +kernel
theorem dL_randomRow_157 : decode cL_randomRow 157 = .ok (.ldc 159, 2) := by decide +kernel
theorem dL_randomRow_159 : decode cL_randomRow 159 = .ok (.goto 5, 3) := by decide +kernel
theorem dL_randomRow_162 : decode cL_randomRow 162 = .ok (.ldc 161, 2) := by decide +kernel
theorem dL_randomRow_164 : decode cL_randomRow 164 = .ok (.invokestatic 132, 3) := by decide +kernel
theorem dL_randomRow_167 : decode cL_randomRow 167 = .ok (.iinc 4 1, 3) := by decide +kernel
theorem dL_randomRow_170 : decode cL_randomRow 170 = .ok (.goto (-87), 3) := by decide +kernel
theorem dL_randomRow_173 : decode cL_randomRow 173 = .ok (.aload_n 3, 1) := by decide +kernel
theorem dL_randomRow_174 : decode cL_randomRow 174 = .ok (.iconst 1, 1) := by decide +kernel
theorem dL_randomRow_175 : decode cL_randomRow 175 = .ok (.aload_n 2, 1) := by decide +kernel
theorem dL_randomRow_176 : decode cL_randomRow 176 = .ok (.bipush 8, 2) := by decide +kernel
theorem dL_randomRow_178 : decode cL_randomRow 178 = .ok (.invokevirtual 118, 3) := by decide +kernel
theorem dL_randomRow_181 : decode cL_randomRow 181 = .ok (.iadd, 1) := by decide +kernel
theorem dL_randomRow_182 : decode cL_randomRow 182 = .ok (.putfield 163, 3) := by decide +kernel
theorem dL_randomRow_185 : decode cL_randomRow 185 = .ok (.iconst 0, 1) := by decide +kernel
theorem dL_randomRow_186 : decode cL_randomRow 186 = .ok (.istore 4, 2) := by decide +kernel
theorem dL_randomRow_188 : decode cL_randomRow 188 = .ok (.iload 4, 2) := by decide +kernel
theorem dL_randomRow_190 : decode cL_randomRow 190 = .ok (.aload_n 3, 1) := by decide +kernel
theorem dL_randomRow_191 : decode cL_randomRow 191 = .ok (.getfield 163, 3) := by decide +kernel
theorem dL_randomRow_194 : decode cL_randomRow 194 = .ok (.if_icmp .ge 75, 3) := by decide +kernel
theorem dL_randomRow_197 : decode cL_randomRow 197 = .ok (.aload_n 3, 1) := by decide +kernel
theorem dL_randomRow_198 : decode cL_randomRow 198 = .ok (.getfield 166, 3) := by decide +kernel
theorem dL_randomRow_201 : decode cL_randomRow 201 = .ok (.iload 4, 2) := by decide +kernel
theorem dL_randomRow_203 : decode cL_randomRow 203 = .ok (.new 170, 3) := by decide +kernel
theorem dL_randomRow_206 : decode cL_randomRow 206 = .ok (.dup, 1) := by decide +kernel
theorem dL_randomRow_207 : decode cL_randomRow 207 = .ok (.aload_n 2, 1) := by decide +kernel
theorem dL_randomRow_208 : decode cL_randomRow 208 = .ok (.bipush 6, 2) := by decide +kernel
theorem dL_randomRow_210 : decode cL_randomRow 210 = .ok (.invokevirtual 118, 3) := by decide +kernel
theorem dL_randomRow_213 : decode cL_randomRow 213 = .ok (.invokespecial 172, 3) := by decide +kernel
theorem dL_randomRow_216 : decode cL_randomRow 216 = .ok (.aastore, 1) := by decide +kernel
theorem dL_randomRow_217 : decode cL_randomRow 217 = .ok (.aload_n 0, 1) := by decide +kernel
theorem dL_randomRow_218 : decode cL_randomRow 218 = .ok (.aload_n 1, 1) := by decide +kernel
theorem dL_randomRow_219 : decode cL_randomRow 219 = .ok (.ldc 173, 2) := by decide +kernel
theorem dL_randomRow_221 : decode cL_randomRow 221 = .ok (.invokestatic 132, 3) := by decide +kernel
theorem dL_randomRow_224 : decode cL_randomRow 224 = .ok (.aload_n 0, 1) := by decide +kernel
theorem dL_randomRow_225 : decode cL_randomRow 225 = .ok (.aload_n 1, 1) := by decide +kernel
theorem dL_randomRow_226 : decode cL_randomRow 226 = .ok (.bipush 97, 2) := by decide +kernel
theorem dL_randomRow_228 : decode cL_randomRow 228 = .ok (.iload 4, 2) := by decide +kernel
theorem dL_randomRow_230 : decode cL_randomRow 230 = .ok (.iadd, 1) := by decide +kernel
theorem dL_randomRow_231 : decode cL_randomRow 231 = .ok (.invokestatic 33, 3) := by decide +kernel
theorem dL_randomRow_234 : decode cL_randomRow 234 = .ok (.aload_n 0, 1) := by decide +kernel
theorem dL_randomRow_235 : decode cL_randomRow 235 = .ok (.aload_n 1, 1) := by decide +kernel
theorem dL_randomRow_236 : decode cL_randomRow 236 = .ok (.ldc 139, 2) := by decide +kernel
theorem dL_randomRow_238 : decode cL_randomRow 238 = .ok (.invokestatic 132, 3) := by decide +kernel
theorem dL_randomRow_241 : decode cL_randomRow 241 = .ok (.aload_n 0, 1) := by decide +kernel
theorem dL_randomRow_242 : decode cL_randomRow 242 = .ok (.aload_n 1, 1) := by decide +kernel
theorem dL_randomRow_243 : decode cL_randomRow 243 = .ok (.aload_n 3, 1) := by decide +kernel
theorem dL_randomRow_244 : decode cL_randomRow 244 = .ok (.getfield 166, 3) := by decide +kernel
theorem dL_randomRow_247 : decode cL_randomRow 247 = .ok (.iload 4, 2) := by decide +kernel
theorem dL_randomRow_249 : decode cL_randomRow 249 = .ok (.aaload, 1) := by decide +kernel
theorem dL_randomRow_250 : decode cL_randomRow 250 = .ok (.getfield 175, 3) := by decide +kernel
theorem dL_randomRow_253 : decode cL_randomRow 253 = .ok (.invokestatic 136, 3) := by decide +kernel
theorem dL_randomRow_256 : decode cL_randomRow 256 = .ok (.aload_n 0, 1) := by decide +kernel
theorem dL_randomRow_257 : decode cL_randomRow 257 = .ok (.aload_n 1, 1) := by decide +kernel
theorem dL_randomRow_258 : decode cL_randomRow 258 = .ok (.ldc 141, 2) := by decide +kernel
theorem dL_randomRow_260 : decode cL_randomRow 260 = .ok (.invokestatic 132, 3) := by decide +kernel
theorem dL_randomRow_263 : decode cL_randomRow 263 = .ok (.iinc 4 1, 3) := by decide +kernel
theorem dL_randomRow_266 : decode cL_randomRow 266 = .ok (.goto (-78), 3) := by decide +kernel
theorem dL_randomRow_269 : decode cL_randomRow 269 = .ok (.iconst 4, 1) := by decide +kernel
theorem dL_randomRow_270 : decode cL_randomRow 270 = .ok (.aload_n 2, 1) := by decide +kernel
theorem dL_randomRow_271 : decode cL_randomRow 271 = .ok (.bipush 10, 2) := by decide +kernel
theorem dL_randomRow_273 : decode cL_randomRow 273 = .ok (.invokevirtual 118, 3) := by decide +kernel
theorem dL_randomRow_276 : decode cL_randomRow 276 = .ok (.iadd, 1) := by decide +kernel
theorem dL_randomRow_277 : decode cL_randomRow 277 = .ok (.istore 4, 2) := by decide +kernel
theorem dL_randomRow_279 : decode cL_randomRow 279 = .ok (.iload 4, 2) := by decide +kernel
theorem dL_randomRow_281 : decode cL_randomRow 281 = .ok (.ifCond .le 193, 3) := by decide +kernel
theorem dL_randomRow_284 : decode cL_randomRow 284 = .ok (.aload_n 2, 1) := by decide +kernel
theorem dL_randomRow_285 : decode cL_randomRow 285 = .ok (.aload_n 3, 1) := by decide +kernel
theorem dL_randomRow_286 : decode cL_randomRow 286 = .ok (.getfield 143, 3) := by decide +kernel
theorem dL_randomRow_289 : decode cL_randomRow 289 = .ok (.invokevirtual 118, 3) := by decide +kernel
theorem dL_randomRow_292 : decode cL_randomRow 292 = .ok (.istore 5, 2) := by decide +kernel
theorem dL_randomRow_294 : decode cL_randomRow 294 = .ok (.aload_n 2, 1) := by decide +kernel
theorem dL_randomRow_295 : decode cL_randomRow 295 = .ok (.iconst 3, 1) := by decide +kernel
theorem dL_randomRow_296 : decode cL_randomRow 296 = .ok (.invokevirtual 118, 3) := by decide +kernel
theorem dL_randomRow_299 : decode cL_randomRow 299 = .ok (.ifCond .ne 7, 3) := by decide +kernel
theorem dL_randomRow_302 : decode cL_randomRow 302 = .ok (.iconst 1, 1) := by decide +kernel
theorem dL_randomRow_303 : decode cL_randomRow 303 = .ok (.goto 4, 3) := by decide +kernel
theorem dL_randomRow_306 : decode cL_randomRow 306 = .ok (.iconst 0, 1) := by decide +kernel
theorem dL_randomRow_307 : decode cL_randomRow 307 = .ok (.istore 6, 2) := by decide +kernel
theorem dL_randomRow_309 : decode cL_randomRow 309 = .ok (.aload_n 2, 1) := by decide +kernel
theorem dL_randomRow_310 : decode cL_randomRow 310 = .ok (.iconst 4, 1) := by decide +kernel
theorem dL_randomRow_311 : decode cL_randomRow 311 = .ok (.invokevirtual 118, 3) := by decide +kernel
theorem dL_randomRow_314 : decode cL_randomRow 314 = .ok (.ifCond .ne 7, 3) := by decide +kernel
theorem dL_randomRow_317 : decode cL_randomRow 317 = .ok (.iconst (-1), 1) := by decide +kernel
theorem dL_randomRow_318 : decode cL_randomRow 318 = .ok (.goto 11, 3) := by decide +kernel
theorem dL_randomRow_321 : decode cL_randomRow 321 = .ok (.aload_n 2, 1) := by decide +kernel
theorem dL_randomRow_322 : decode cL_randomRow 322 = .ok (.aload_n 3, 1) := by decide +kernel
theorem dL_randomRow_323 : decode cL_randomRow 323 = .ok (.getfield 163, 3) := by decide +kernel
theorem dL_randomRow_326 : decode cL_randomRow 326 = .ok (.invokevirtual 118, 3) := by decide +kernel
theorem dL_randomRow_329 : decode cL_randomRow 329 = .ok (.istore 7, 2) := by decide +kernel
theorem dL_randomRow_331 : decode cL_randomRow 331 = .ok (.aload_n 3, 1) := by decide +kernel
theorem dL_randomRow_332 : decode cL_randomRow 332 = .ok (.iload 5, 2) := by decide +kernel
theorem dL_randomRow_334 : decode cL_randomRow 334 = .ok (.iload 6, 2) := by decide +kernel
theorem dL_randomRow_336 : decode cL_randomRow 336 = .ok (.iload 7, 2) := by decide +kernel
theorem dL_randomRow_338 : decode cL_randomRow 338 = .ok (.invokevirtual 178, 3) := by decide +kernel
theorem dL_randomRow_341 : decode cL_randomRow 341 = .ok (.ifCond .le 6, 3) := by decide +kernel
theorem dL_randomRow_344 : decode cL_randomRow 344 = .ok (.goto 124, 3) := by decide +kernel
theorem dL_randomRow_347 : decode cL_randomRow 347 = .ok (.aload_n 3, 1) := by decide +kernel
theorem dL_randomRow_348 : decode cL_randomRow 348 = .ok (.iload 5, 2) := by decide +kernel
theorem dL_randomRow_350 : decode cL_randomRow 350 = .ok (.iload 6, 2) := by decide +kernel
theorem dL_randomRow_352 : decode cL_randomRow 352 = .ok (.iload 7, 2) := by decide +kernel
theorem dL_randomRow_354 : decode cL_randomRow 354 = .ok (.invokevirtual 181, 3) := by decide +kernel
theorem dL_randomRow_357 : decode cL_randomRow 357 = .ok (.istore 8, 2) := by decide +kernel
theorem dL_randomRow_359 : decode cL_randomRow 359 = .ok (.aload_n 0, 1) := by decide +kernel
theorem dL_randomRow_360 : decode cL_randomRow 360 = .ok (.aload_n 1, 1) := by decide +kernel
theorem dL_randomRow_361 : decode cL_randomRow 361 = .ok (.ldc 182, 2) := by decide +kernel
theorem dL_randomRow_363 : decode cL_randomRow 363 = .ok (.invokestatic 132, 3) := by decide +kernel
theorem dL_randomRow_366 : decode cL_randomRow 366 = .ok (.aload_n 0, 1) := by decide +kernel
theorem dL_randomRow_367 : decode cL_randomRow 367 = .ok (.aload_n 1, 1) := by decide +kernel
theorem dL_randomRow_368 : decode cL_randomRow 368 = .ok (.iload 5, 2) := by decide +kernel
theorem dL_randomRow_370 : decode cL_randomRow 370 = .ok (.invokestatic 136, 3) := by decide +kernel
theorem dL_randomRow_373 : decode cL_randomRow 373 = .ok (.aload_n 0, 1) := by decide +kernel
theorem dL_randomRow_374 : decode cL_randomRow 374 = .ok (.aload_n 1, 1) := by decide +kernel
theorem dL_randomRow_375 : decode cL_randomRow 375 = .ok (.iload 6, 2) := by decide +kernel
theorem dL_randomRow_377 : decode cL_randomRow 377 = .ok (.ifCond .ne 8, 3) := by decide +kernel
theorem dL_randomRow_380 : decode cL_randomRow 380 = .ok (.ldc 184, 2) := by decide +kernel
theorem dL_randomRow_382 : decode cL_randomRow 382 = .ok (.goto 5, 3) := by decide +kernel
theorem dL_randomRow_385 : decode cL_randomRow 385 = .ok (.ldc 186, 2) := by decide +kernel
theorem dL_randomRow_387 : decode cL_randomRow 387 = .ok (.invokestatic 132, 3) := by decide +kernel
theorem dL_randomRow_390 : decode cL_randomRow 390 = .ok (.iload 7, 2) := by decide +kernel
theorem dL_randomRow_392 : decode cL_randomRow 392 = .ok (.ifCond .lt 20, 3) := by decide +kernel
theorem dL_randomRow_395 : decode cL_randomRow 395 = .ok (.aload_n 0, 1) := by decide +kernel
theorem dL_randomRow_396 : decode cL_randomRow 396 = .ok (.aload_n 1, 1) := by decide +kernel
theorem dL_randomRow_397 : decode cL_randomRow 397 = .ok (.ldc 139, 2) := by decide +kernel
theorem dL_randomRow_399 : decode cL_randomRow 399 = .ok (.invokestatic 132, 3) := by decide +kernel
theorem dL_randomRow_402 : decode cL_randomRow 402 = .ok (.aload_n 0, 1) := by decide +kernel
theorem dL_randomRow_403 : decode cL_randomRow 403 = .ok (.aload_n 1, 1) := by decide +kernel
theorem dL_randomRow_404 : decode cL_randomRow 404 = .ok (.bipush 97, 2) := by decide +kernel
theorem dL_randomRow_406 : decode cL_randomRow 406 = .ok (.iload 7, 2) := by decide +kernel
theorem dL_randomRow_408 : decode cL_randomRow 408 = .ok (.iadd, 1) := by decide +kernel
theorem dL_randomRow_409 : decode cL_randomRow 409 = .ok (.invokestatic 33, 3) := by decide +kernel
theorem dL_randomRow_412 : decode cL_randomRow 412 = .ok (.aload_n 0, 1) := by decide +kernel
theorem dL_randomRow_413 : decode cL_randomRow 413 = .ok (.aload_n 1, 1) := by decide +kernel
theorem dL_randomRow_414 : decode cL_randomRow 414 = .ok (.ldc 188, 2) := by decide +kernel
theorem dL_randomRow_416 : decode cL_randomRow 416 = .ok (.invokestatic 132, 3) := by decide +kernel
theorem dL_randomRow_419 : decode cL_randomRow 419 = .ok (.aload_n 2, 1) := by decide +kernel
theorem dL_randomRow_420 : decode cL_randomRow 420 = .ok (.iconst 3, 1) := by decide +kernel
theorem dL_randomRow_421 : decode cL_randomRow 421 = .ok (.invokevirtual 118, 3) := by decide +kernel
theorem dL_randomRow_424 : decode cL_randomRow 424 = .ok (.ifCond .le 6, 3) := by decide +kernel
theorem dL_randomRow_427 : decode cL_randomRow 427 = .ok (.goto 41, 3) := by decide +kernel
theorem dL_randomRow_430 : decode cL_randomRow 430 = .ok (.iconst 1, 1) := by decide +kernel
theorem dL_randomRow_431 : decode cL_randomRow 431 = .ok (.aload_n 2, 1) := by decide +kernel
theorem dL_randomRow_432 : decode cL_randomRow 432 = .ok (.iconst 4, 1) := by decide +kernel
theorem dL_randomRow_433 : decode cL_randomRow 433 = .ok (.invokevirtual 118, 3) := by decide +kernel
theorem dL_randomRow_436 : decode cL_randomRow 436 = .ok (.iadd, 1) := by decide +kernel
theorem dL_randomRow_437 : decode cL_randomRow 437 = .ok (.istore 9, 2) := by decide +kernel
theorem dL_randomRow_439 : decode cL_randomRow 439 = .ok (.aload_n 0, 1) := by decide +kernel
theorem dL_randomRow_440 : decode cL_randomRow 440 = .ok (.aload_n 1, 1) := by decide +kernel
theorem dL_randomRow_441 : decode cL_randomRow 441 = .ok (.ldc 190, 2) := by decide +kernel
theorem dL_randomRow_443 : decode cL_randomRow 443 = .ok (.invokestatic 132, 3) := by decide +kernel
theorem dL_randomRow_446 : decode cL_randomRow 446 = .ok (.aload_n 0, 1) := by decide +kernel
theorem dL_randomRow_447 : decode cL_randomRow 447 = .ok (.aload_n 1, 1) := by decide +kernel
theorem dL_randomRow_448 : decode cL_randomRow 448 = .ok (.iload 9, 2) := by decide +kernel
theorem dL_randomRow_450 : decode cL_randomRow 450 = .ok (.invokestatic 136, 3) := by decide +kernel
theorem dL_randomRow_453 : decode cL_randomRow 453 = .ok (.aload_n 0, 1) := by decide +kernel
theorem dL_randomRow_454 : decode cL_randomRow 454 = .ok (.aload_n 1, 1) := by decide +kernel
theorem dL_randomRow_455 : decode cL_randomRow 455 = .ok (.ldc 141, 2) := by decide +kernel
theorem dL_randomRow_457 : decode cL_randomRow 457 = .ok (.invokestatic 132, 3) := by decide +kernel
theorem dL_randomRow_460 : decode cL_randomRow 460 = .ok (.aload_n 3, 1) := by decide +kernel
theorem dL_randomRow_461 : decode cL_randomRow 461 = .ok (.iload 9, 2) := by decide +kernel
theorem dL_randomRow_463 : decode cL_randomRow 463 = .ok (.invokevirtual 192, 3) := by decide +kernel
theorem dL_randomRow_466 : decode cL_randomRow 466 = .ok (.istore 8, 2) := by decide +kernel
theorem dL_randomRow_468 : decode cL_randomRow 468 = .ok (.iinc 4 (-1), 3) := by decide +kernel
theorem dL_randomRow_471 : decode cL_randomRow 471 = .ok (.goto (-192), 3) := by decide +kernel
theorem dL_randomRow_474 : decode cL_randomRow 474 = .ok (.aload_n 0, 1) := by decide +kernel
theorem dL_randomRow_475 : decode cL_randomRow 475 = .ok (.aload_n 1, 1) := by decide +kernel
theorem dL_randomRow_476 : decode cL_randomRow 476 = .ok (.invokestatic 193, 3) := by decide +kernel
theorem dL_randomRow_479 : decode cL_randomRow 479 = .ok (.aload_n 3, 1) := by decide +kernel
theorem dL_randomRow_480 : decode cL_randomRow 480 = .ok (.getfield 143, 3) := by decide +kernel
theorem dL_randomRow_483 : decode cL_randomRow 483 = .ok (.if_icmp .ne 7, 3) := by decide +kernel
theorem dL_randomRow_486 : decode cL_randomRow 486 = .ok (.aload_n 3, 1) := by decide +kernel
theorem dL_randomRow_487 : decode cL_randomRow 487 = .ok (.goto 4, 3) := by decide +kernel
theorem dL_randomRow_490 : decode cL_randomRow 490 = .ok (.aconst_null, 1) := by decide +kernel
theorem dL_randomRow_491 : decode cL_randomRow 491 = .ok (.areturn, 1) := by decide +kernel
theorem dL_act_0 : decode cL_act 0 = .ok (.aload_n 2, 1) := by decide +kernel
theorem dL_act_1 : decode cL_act 1 = .ok (.aload_n 1, 1) := by decide +kernel
theorem dL_act_2 : decode cL_act 2 = .ok (.getfield 143, 3) := by decide +kernel
theorem dL_act_5 : decode cL_act 5 = .ok (.invokevirtual 118, 3) := by decide +kernel
theorem dL_act_8 : decode cL_act 8 = .ok (.istore_n 3, 1) := by decide +kernel
theorem dL_act_9 : decode cL_act 9 = .ok (.aload_n 2, 1) := by decide +kernel
theorem dL_act_10 : decode cL_act 10 = .ok (.aload_n 1, 1) := by decide +kernel
theorem dL_act_11 : decode cL_act 11 = .ok (.getfield 163, 3) := by decide +kernel
theorem dL_act_14 : decode cL_act 14 = .ok (.invokevirtual 118, 3) := by decide +kernel
theorem dL_act_17 : decode cL_act 17 = .ok (.istore 4, 2) := by decide +kernel
theorem dL_act_19 : decode cL_act 19 = .ok (.aload_n 2, 1) := by decide +kernel
theorem dL_act_20 : decode cL_act 20 = .ok (.iconst 2, 1) := by decide +kernel
theorem dL_act_21 : decode cL_act 21 = .ok (.invokevirtual 118, 3) := by decide +kernel
theorem dL_act_24 : decode cL_act 24 = .ok (.istore 5, 2) := by decide +kernel
theorem dL_act_26 : decode cL_act 26 = .ok (.aload_n 2, 1) := by decide +kernel
theorem dL_act_27 : decode cL_act 27 = .ok (.bipush 16, 2) := by decide +kernel
theorem dL_act_29 : decode cL_act 29 = .ok (.invokevirtual 118, 3) := by decide +kernel
theorem dL_act_32 : decode cL_act 32 = .ok (.tableswitch 599 0 9 #[56, 56, 56, 56, 56, 137, 275, 362, 465, 571], 56) := by decide +kernel
theorem dL_act_88 : decode cL_act 88 = .ok (.aload_n 2, 1) := by decide +kernel
theorem dL_act_89 : decode cL_act 89 = .ok (.iconst 3, 1) := by decide +kernel
theorem dL_act_90 : decode cL_act 90 = .ok (.invokevirtual 118, 3) := by decide +kernel
theorem dL_act_93 : decode cL_act 93 = .ok (.ifCond .ne 7, 3) := by decide +kernel
theorem dL_act_96 : decode cL_act 96 = .ok (.iconst (-1), 1) := by decide +kernel
theorem dL_act_97 : decode cL_act 97 = .ok (.goto 5, 3) := by decide +kernel
theorem dL_act_100 : decode cL_act 100 = .ok (.iload 4, 2) := by decide +kernel
theorem dL_act_102 : decode cL_act 102 = .ok (.istore 6, 2) := by decide +kernel
theorem dL_act_104 : decode cL_act 104 = .ok (.aload_n 1, 1) := by decide +kernel
theorem dL_act_105 : decode cL_act 105 = .ok (.getfield 146, 3) := by decide +kernel
theorem dL_act_108 : decode cL_act 108 = .ok (.iload_n 3, 1) := by decide +kernel
theorem dL_act_109 : decode cL_act 109 = .ok (.aaload, 1) := by decide +kernel
theorem dL_act_110 : decode cL_act 110 = .ok (.getfield 155, 3) := by decide +kernel
theorem dL_act_113 : decode cL_act 113 = .ok (.iconst 2, 1) := by decide +kernel
theorem dL_act_114 : decode cL_act 114 = .ok (.if_icmp .ge 24, 3) := by decide +kernel
theorem dL_act_117 : decode cL_act 117 = .ok (.aload_n 2, 1) := by decide +kernel
theorem dL_act_118 : decode cL_act 118 = .ok (.bipush 8, 2) := by decide +kernel
theorem dL_act_120 : decode cL_act 120 = .ok (.invokevirtual 118, 3) := by decide +kernel
theorem dL_act_123 : decode cL_act 123 = .ok (.ifCond .le 15, 3) := by decide +kernel
theorem dL_act_126 : decode cL_act 126 = .ok (.aload_n 1, 1) := by decide +kernel
theorem dL_act_127 : decode cL_act 127 = .ok (.getfield 146, 3) := by decide +kernel
theorem dL_act_130 : decode cL_act 130 = .ok (.iload_n 3, 1) := by decide +kernel
theorem dL_act_131 : decode cL_act 131 = .ok (.aaload, 1) := by decide +kernel
theorem dL_act_132 : decode cL_act 132 = .ok (.getfield 155, 3) := by decide +kernel
theorem dL_act_135 : decode cL_act 135 = .ok (.goto 5, 3) := by decide +kernel
theorem dL_act_138 : decode cL_act 138 = .ok (.iload 5, 2) := by decide +kernel
theorem dL_act_140 : decode cL_act 140 = .ok (.istore 7, 2) := by decide +kernel
theorem dL_act_142 : decode cL_act 142 = .ok (.aload_n 0, 1) := by decide +kernel
theorem dL_act_143 : decode cL_act 143 = .ok (.iload_n 3, 1) := by decide +kernel
theorem dL_act_144 : decode cL_act 144 = .ok (.iload 7, 2) := by decide +kernel
theorem dL_act_146 : decode cL_act 146 = .ok (.iload 6, 2) := by decide +kernel
theorem dL_act_148 : decode cL_act 148 = .ok (.invokestatic 197, 3) := by decide +kernel
theorem dL_act_151 : decode cL_act 151 = .ok (.aload_n 1, 1) := by decide +kernel
theorem dL_act_152 : decode cL_act 152 = .ok (.iload_n 3, 1) := by decide +kernel
theorem dL_act_153 : decode cL_act 153 = .ok (.iload 7, 2) := by decide +kernel
theorem dL_act_155 : decode cL_act 155 = .ok (.iload 6, 2) := by decide +kernel
theorem dL_act_157 : decode cL_act 157 = .ok (.invokevirtual 181, 3) := by decide +kernel
theorem dL_act_160 : decode cL_act 160 = .ok (.if_icmp .ne 7, 3) := by decide +kernel
theorem dL_act_163 : decode cL_act 163 = .ok (.iconst 1, 1) := by decide +kernel
theorem dL_act_164 : decode cL_act 164 = .ok (.goto 4, 3) := by decide +kernel
theorem dL_act_167 : decode cL_act 167 = .ok (.iconst 0, 1) := by decide +kernel
theorem dL_act_168 : decode cL_act 168 = .ok (.ireturn, 1) := by decide +kernel
theorem dL_act_169 : decode cL_act 169 = .ok (.aload_n 1, 1) := by decide +kernel
theorem dL_act_170 : decode cL_act 170 = .ok (.getfield 146, 3) := by decide +kernel
theorem dL_act_173 : decode cL_act 173 = .ok (.iload_n 3, 1) := by decide +kernel
theorem dL_act_174 : decode cL_act 174 = .ok (.aaload, 1) := by decide +kernel
theorem dL_act_175 : decode cL_act 175 = .ok (.iload 5, 2) := by decide +kernel
theorem dL_act_177 : decode cL_act 177 = .ok (.invokevirtual 200, 3) := by decide +kernel
theorem dL_act_180 : decode cL_act 180 = .ok (.astore 8, 2) := by decide +kernel
theorem dL_act_182 : decode cL_act 182 = .ok (.aload_n 2, 1) := by decide +kernel
theorem dL_act_183 : decode cL_act 183 = .ok (.aload 8, 2) := by decide +kernel
theorem dL_act_185 : decode cL_act 185 = .ok (.getfield 204, 3) := by decide +kernel
theorem dL_act_188 : decode cL_act 188 = .ok (.iconst 1, 1) := by decide +kernel
theorem dL_act_189 : decode cL_act 189 = .ok (.iadd, 1) := by decide +kernel
theorem dL_act_190 : decode cL_act 190 = .ok (.invokevirtual 118, 3) := by decide +kernel
theorem dL_act_193 : decode cL_act 193 = .ok (.istore 9, 2) := by decide +kernel
theorem dL_act_195 : decode cL_act 195 = .ok (.iload 9, 2) := by decide +kernel
theorem dL_act_197 : decode cL_act 197 = .ok (.aload 8, 2) := by decide +kernel
theorem dL_act_199 : decode cL_act 199 = .ok (.getfield 204, 3) := by decide +kernel
theorem dL_act_202 : decode cL_act 202 = .ok (.if_icmp .ne 23, 3) := by decide +kernel
theorem dL_act_205 : decode cL_act 205 = .ok (.aload_n 0, 1) := by decide +kernel
theorem dL_act_206 : decode cL_act 206 = .ok (.iload_n 3, 1) := by decide +kernel
theorem dL_act_207 : decode cL_act 207 = .ok (.iload 5, 2) := by decide +kernel
theorem dL_act_209 : decode cL_act 209 = .ok (.iload 9, 2) := by decide +kernel
theorem dL_act_211 : decode cL_act 211 = .ok (.invokestatic 207, 3) := by decide +kernel
theorem dL_act_214 : decode cL_act 214 = .ok (.ldc 65, 2) := by decide +kernel
theorem dL_act_216 : decode cL_act 216 = .ok (.if_icmp .ne 7, 3) := by decide +kernel
theorem dL_act_219 : decode cL_act 219 = .ok (.iconst 2, 1) := by decide +kernel
theorem dL_act_220 : decode cL_act 220 = .ok (.goto 4, 3) := by decide +kernel
theorem dL_act_223 : decode cL_act 223 = .ok (.iconst 0, 1) := by decide +kernel
theorem dL_act_224 : decode cL_act 224 = .ok (.ireturn, 1) := by decide +kernel
theorem dL_act_225 : decode cL_act 225 = .ok (.iload 9, 2) := by decide +kernel
theorem dL_act_227 : decode cL_act 227 = .ok (.ifCond .ne 48, 3) := by decide +kernel
theorem dL_act_230 : decode cL_act 230 = .ok (.aload_n 1, 1) := by decide +kernel
theorem dL_act_231 : decode cL_act 231 = .ok (.getfield 146, 3) := by decide +kernel
theorem dL_act_234 : decode cL_act 234 = .ok (.iload_n 3, 1) := by decide +kernel
theorem dL_act_235 : decode cL_act 235 = .ok (.aaload, 1) := by decide +kernel
theorem dL_act_236 : decode cL_act 236 = .ok (.getfield 209, 3) := by decide +kernel
theorem dL_act_239 : decode cL_act 239 = .ok (.ifCond .eq 36, 3) := by decide +kernel
theorem dL_act_242 : decode cL_act 242 = .ok (.aload_n 1, 1) := by decide +kernel
theorem dL_act_243 : decode cL_act 243 = .ok (.getfield 146, 3) := by decide +kernel
theorem dL_act_246 : decode cL_act 246 = .ok (.iload_n 3, 1) := by decide +kernel
theorem dL_act_247 : decode cL_act 247 = .ok (.aaload, 1) := by decide +kernel
theorem dL_act_248 : decode cL_act 248 = .ok (.getfield 213, 3) := by decide +kernel
theorem dL_act_251 : decode cL_act 251 = .ok (.iload 5, 2) := by decide +kernel
theorem dL_act_253 : decode cL_act 253 = .ok (.if_icmp .ne 22, 3) := by decide +kernel
theorem dL_act_256 : decode cL_act 256 = .ok (.aload_n 0, 1) := by decide +kernel
theorem dL_act_257 : decode cL_act 257 = .ok (.iload_n 3, 1) := by decide +kernel
theorem dL_act_258 : decode cL_act 258 = .ok (.iload 5, 2) := by decide +kernel
theorem dL_act_260 : decode cL_act 260 = .ok (.iconst 0, 1) := by decide +kernel
theorem dL_act_261 : decode cL_act 261 = .ok (.invokestatic 207, 3) := by decide +kernel
theorem dL_act_264 : decode cL_act 264 = .ok (.ldc 98, 2) := by decide +kernel
theorem dL_act_266 : decode cL_act 266 = .ok (.if_icmp .ne 7, 3) := by decide +kernel
theorem dL_act_269 : decode cL_act 269 = .ok (.iconst 2, 1) := by decide +kernel
theorem dL_act_270 : decode cL_act 270 = .ok (.goto 4, 3) := by decide +kernel
theorem dL_act_273 : decode cL_act 273 = .ok (.iconst 0, 1) := by decide +kernel
theorem dL_act_274 : decode cL_act 274 = .ok (.ireturn, 1) := by decide +kernel
theorem dL_act_275 : decode cL_act 275 = .ok (.aload 8, 2) := by decide +kernel
theorem dL_act_277 : decode cL_act 277 = .ok (.iload 9, 2) := by decide +kernel
theorem dL_act_279 : decode cL_act 279 = .ok (.invokevirtual 216, 3) := by decide +kernel
theorem dL_act_282 : decode cL_act 282 = .ok (.istore 10, 2) := by decide +kernel
theorem dL_act_284 : decode cL_act 284 = .ok (.aload_n 0, 1) := by decide +kernel
theorem dL_act_285 : decode cL_act 285 = .ok (.iload_n 3, 1) := by decide +kernel
theorem dL_act_286 : decode cL_act 286 = .ok (.iload 5, 2) := by decide +kernel
theorem dL_act_288 : decode cL_act 288 = .ok (.iload 9, 2) := by decide +kernel
theorem dL_act_290 : decode cL_act 290 = .ok (.invokestatic 207, 3) := by decide +kernel
theorem dL_act_293 : decode cL_act 293 = .ok (.aload 8, 2) := by decide +kernel
theorem dL_act_295 : decode cL_act 295 = .ok (.getfield 204, 3) := by decide +kernel
theorem dL_act_298 : decode cL_act 298 = .ok (.if_icmp .ne 7, 3) := by decide +kernel
theorem dL_act_301 : decode cL_act 301 = .ok (.iconst 1, 1) := by decide +kernel
theorem dL_act_302 : decode cL_act 302 = .ok (.goto 4, 3) := by decide +kernel
theorem dL_act_305 : decode cL_act 305 = .ok (.iconst 0, 1) := by decide +kernel
theorem dL_act_306 : decode cL_act 306 = .ok (.ireturn, 1) := by decide +kernel
theorem dL_act_307 : decode cL_act 307 = .ok (.aload_n 1, 1) := by decide +kernel
theorem dL_act_308 : decode cL_act 308 = .ok (.getfield 166, 3) := by decide +kernel
theorem dL_act_311 : decode cL_act 311 = .ok (.iload 4, 2) := by decide +kernel
theorem dL_act_313 : decode cL_act 313 = .ok (.aaload, 1) := by decide +kernel
theorem dL_act_314 : decode cL_act 314 = .ok (.aload_n 2, 1) := by decide +kernel
theorem dL_act_315 : decode cL_act 315 = .ok (.iconst 3, 1) := by decide +kernel
theorem dL_act_316 : decode cL_act 316 = .ok (.invokevirtual 118, 3) := by decide +kernel
theorem dL_act_319 : decode cL_act 319 = .ok (.ifCond .ne 7, 3) := by decide +kernel
theorem dL_act_322 : decode cL_act 322 = .ok (.iconst 1, 1) := by decide +kernel
theorem dL_act_323 : decode cL_act 323 = .ok (.goto 4, 3) := by decide +kernel
theorem dL_act_326 : decode cL_act 326 = .ok (.iconst 0, 1) := by decide +kernel
theorem dL_act_327 : decode cL_act 327 = .ok (.putfield 219, 3) := by decide +kernel
theorem dL_act_330 : decode cL_act 330 = .ok (.iconst 0, 1) := by decide +kernel
theorem dL_act_331 : decode cL_act 331 = .ok (.istore 11, 2) := by decide +kernel
theorem dL_act_333 : decode cL_act 333 = .ok (.iconst 0, 1) := by decide +kernel
theorem dL_act_334 : decode cL_act 334 = .ok (.istore 12, 2) := by decide +kernel
theorem dL_act_336 : decode cL_act 336 = .ok (.iload 12, 2) := by decide +kernel
theorem dL_act_338 : decode cL_act 338 = .ok (.aload_n 1, 1) := by decide +kernel
theorem dL_act_339 : decode cL_act 339 = .ok (.getfield 163, 3) := by decide +kernel
theorem dL_act_342 : decode cL_act 342 = .ok (.if_icmp .ge 25, 3) := by decide +kernel
theorem dL_act_345 : decode cL_act 345 = .ok (.aload_n 1, 1) := by decide +kernel
theorem dL_act_346 : decode cL_act 346 = .ok (.getfield 166, 3) := by decide +kernel
theorem dL_act_349 : decode cL_act 349 = .ok (.iload 12, 2) := by decide +kernel
theorem dL_act_351 : decode cL_act 351 = .ok (.aaload, 1) := by decide +kernel
theorem dL_act_352 : decode cL_act 352 = .ok (.getfield 219, 3) := by decide +kernel
theorem dL_act_355 : decode cL_act 355 = .ok (.ifCond .eq 6, 3) := by decide +kernel
theorem dL_act_358 : decode cL_act 358 = .ok (.iinc 11 1, 3) := by decide +kernel
theorem dL_act_361 : decode cL_act 361 = .ok (.iinc 12 1, 3) := by decide +kernel
theorem dL_act_364 : decode cL_act 364 = .ok (.goto (-28), 3) := by decide +kernel
theorem dL_act_367 : decode cL_act 367 = .ok (.aload_n 0, 1) := by decide +kernel
theorem dL_act_368 : decode cL_act 368 = .ok (.iload 4, 2) := by decide +kernel
theorem dL_act_370 : decode cL_act 370 = .ok (.aload_n 1, 1) := by decide +kernel
theorem dL_act_371 : decode cL_act 371 = .ok (.getfield 166, 3) := by decide +kernel
theorem dL_act_374 : decode cL_act 374 = .ok (.iload 4, 2) := by decide +kernel
theorem dL_act_376 : decode cL_act 376 = .ok (.aaload, 1) := by decide +kernel
theorem dL_act_377 : decode cL_act 377 = .ok (.getfield 219, 3) := by decide +kernel
theorem dL_act_380 : decode cL_act 380 = .ok (.invokestatic 222, 3) := by decide +kernel
theorem dL_act_383 : decode cL_act 383 = .ok (.iload 11, 2) := by decide +kernel
theorem dL_act_385 : decode cL_act 385 = .ok (.if_icmp .ne 7, 3) := by decide +kernel
theorem dL_act_388 : decode cL_act 388 = .ok (.iconst 1, 1) := by decide +kernel
theorem dL_act_389 : decode cL_act 389 = .ok (.goto 4, 3) := by decide +kernel
theorem dL_act_392 : decode cL_act 392 = .ok (.iconst 0, 1) := by decide +kernel
theorem dL_act_393 : decode cL_act 393 = .ok (.ireturn, 1) := by decide +kernel
theorem dL_act_394 : decode cL_act 394 = .ok (.iconst 1, 1) := by decide +kernel
theorem dL_act_395 : decode cL_act 395 = .ok (.aload_n 2, 1) := by decide +kernel
theorem dL_act_396 : decode cL_act 396 = .ok (.aload_n 2, 1) := by decide +kernel
theorem dL_act_397 : decode cL_act 397 = .ok (.iconst 4, 1) := by decide +kernel
theorem dL_act_398 : decode cL_act 398 = .ok (.invokevirtual 118, 3) := by decide +kernel
theorem dL_act_401 : decode cL_act 401 = .ok (.ifCond .ne 8, 3) := by decide +kernel
theorem dL_act_404 : decode cL_act 404 = .ok (.bipush 99, 2) := by decide +kernel
theorem dL_act_406 : decode cL_act 406 = .ok (.goto 4, 3) := by decide +kernel
theorem dL_act_409 : decode cL_act 409 = .ok (.iconst 5, 1) := by decide +kernel
theorem dL_act_410 : decode cL_act 410 = .ok (.invokevirtual 118, 3) := by decide +kernel
theorem dL_act_413 : decode cL_act 413 = .ok (.iadd, 1) := by decide +kernel
theorem dL_act_414 : decode cL_act 414 = .ok (.istore 12, 2) := by decide +kernel
theorem dL_act_416 : decode cL_act 416 = .ok (.aload_n 1, 1) := by decide +kernel
theorem dL_act_417 : decode cL_act 417 = .ok (.getfield 166, 3) := by decide +kernel
theorem dL_act_420 : decode cL_act 420 = .ok (.iload 4, 2) := by decide +kernel
theorem dL_act_422 : decode cL_act 422 = .ok (.aaload, 1) := by decide +kernel
theorem dL_act_423 : decode cL_act 423 = .ok (.getfield 175, 3) := by decide +kernel
theorem dL_act_426 : decode cL_act 426 = .ok (.iload 12, 2) := by decide +kernel
theorem dL_act_428 : decode cL_act 428 = .ok (.iadd, 1) := by decide +kernel
theorem dL_act_429 : decode cL_act 429 = .ok (.bipush 99, 2) := by decide +kernel
theorem dL_act_431 : decode cL_act 431 = .ok (.if_icmp .le 22, 3) := by decide +kernel
theorem dL_act_434 : decode cL_act 434 = .ok (.aload_n 0, 1) := by decide +kernel
theorem dL_act_435 : decode cL_act 435 = .ok (.iload 4, 2) := by decide +kernel
theorem dL_act_437 : decode cL_act 437 = .ok (.iload 12, 2) := by decide +kernel
theorem dL_act_439 : decode cL_act 439 = .ok (.invokestatic 225, 3) := by decide +kernel
theorem dL_act_442 : decode cL_act 442 = .ok (.ldc 98, 2) := by decide +kernel
theorem dL_act_444 : decode cL_act 444 = .ok (.if_icmp .ne 7, 3) := by decide +kernel
theorem dL_act_447 : decode cL_act 447 = .ok (.iconst 2, 1) := by decide +kernel
theorem dL_act_448 : decode cL_act 448 = .ok (.goto 4, 3) := by decide +kernel
theorem dL_act_451 : decode cL_act 451 = .ok (.iconst 0, 1) := by decide +kernel
theorem dL_act_452 : decode cL_act 452 = .ok (.ireturn, 1) := by decide +kernel
theorem dL_act_453 : decode cL_act 453 = .ok (.aload_n 1, 1) := by decide +kernel
theorem dL_act_454 : decode cL_act 454 = .ok (.getfield 166, 3) := by decide +kernel
theorem dL_act_457 : decode cL_act 457 = .ok (.iload 4, 2) := by decide +kernel
theorem dL_act_459 : decode cL_act 459 = .ok (.aaload, 1) := by decide +kernel
theorem dL_act_460 : decode cL_act 460 = .ok (.dup, 1) := by decide +kernel
theorem dL_act_461 : decode cL_act 461 = .ok (.getfield 175, 3) := by decide +kernel
theorem dL_act_464 : decode cL_act 464 = .ok (.iload 12, 2) := by decide +kernel
theorem dL_act_466 : decode cL_act 466 = .ok (.iadd, 1) := by decide +kernel
theorem dL_act_467 : decode cL_act 467 = .ok (.putfield 175, 3) := by decide +kernel
theorem dL_act_470 : decode cL_act 470 = .ok (.aload_n 0, 1) := by decide +kernel
theorem dL_act_471 : decode cL_act 471 = .ok (.iload 4, 2) := by decide +kernel
theorem dL_act_473 : decode cL_act 473 = .ok (.iload 12, 2) := by decide +kernel
theorem dL_act_475 : decode cL_act 475 = .ok (.invokestatic 225, 3) := by decide +kernel
theorem dL_act_478 : decode cL_act 478 = .ok (.aload_n 1, 1) := by decide +kernel
theorem dL_act_479 : decode cL_act 479 = .ok (.getfield 166, 3) := by decide +kernel
theorem dL_act_482 : decode cL_act 482 = .ok (.iload 4, 2) := by decide +kernel
theorem dL_act_484 : decode cL_act 484 = .ok (.aaload, 1) := by decide +kernel
theorem dL_act_485 : decode cL_act 485 = .ok (.getfield 175, 3) := by decide +kernel
theorem dL_act_488 : decode cL_act 488 = .ok (.if_icmp .ne 7, 3) := by decide +kernel
theorem dL_act_491 : decode cL_act 491 = .ok (.iconst 1, 1) := by decide +kernel
theorem dL_act_492 : decode cL_act 492 = .ok (.goto 4, 3) := by decide +kernel
theorem dL_act_495 : decode cL_act 495 = .ok (.iconst 0, 1) := by decide +kernel
theorem dL_act_496 : decode cL_act 496 = .ok (.ireturn, 1) := by decide +kernel
theorem dL_act_497 : decode cL_act 497 = .ok (.aload_n 2, 1) := by decide +kernel
theorem dL_act_498 : decode cL_act 498 = .ok (.iconst 3, 1) := by decide +kernel
theorem dL_act_499 : decode cL_act 499 = .ok (.invokevirtual 118, 3) := by decide +kernel
theorem dL_act_502 : decode cL_act 502 = .ok (.istore 13, 2) := by decide +kernel
theorem dL_act_504 : decode cL_act 504 = .ok (.aload_n 1, 1) := by decide +kernel
theorem dL_act_505 : decode cL_act 505 = .ok (.getfield 146, 3) := by decide +kernel
theorem dL_act_508 : decode cL_act 508 = .ok (.iload_n 3, 1) := by decide +kernel
theorem dL_act_509 : decode cL_act 509 = .ok (.aaload, 1) := by decide +kernel
theorem dL_act_510 : decode cL_act 510 = .ok (.astore 14, 2) := by decide +kernel
theorem dL_act_512 : decode cL_act 512 = .ok (.aload 14, 2) := by decide +kernel
theorem dL_act_514 : decode cL_act 514 = .ok (.getfield 228, 3) := by decide +kernel
theorem dL_act_517 : decode cL_act 517 = .ok (.ifCond .gt 36, 3) := by decide +kernel
theorem dL_act_520 : decode cL_act 520 = .ok (.iload 13, 2) := by decide +kernel
theorem dL_act_522 : decode cL_act 522 = .ok (.ifCond .ne 14, 3) := by decide +kernel
theorem dL_act_525 : decode cL_act 525 = .ok (.aload 14, 2) := by decide +kernel
theorem dL_act_527 : decode cL_act 527 = .ok (.getfield 231, 3) := by decide +kernel
theorem dL_act_530 : decode cL_act 530 = .ok (.getfield 204, 3) := by decide +kernel
theorem dL_act_533 : decode cL_act 533 = .ok (.ifCond .gt 20, 3) := by decide +kernel
theorem dL_act_536 : decode cL_act 536 = .ok (.iload 13, 2) := by decide +kernel
theorem dL_act_538 : decode cL_act 538 = .ok (.iconst 1, 1) := by decide +kernel
theorem dL_act_539 : decode cL_act 539 = .ok (.if_icmp .ne 32, 3) := by decide +kernel
theorem dL_act_542 : decode cL_act 542 = .ok (.aload 14, 2) := by decide +kernel
theorem dL_act_544 : decode cL_act 544 = .ok (.getfield 235, 3) := by decide +kernel
theorem dL_act_547 : decode cL_act 547 = .ok (.getfield 204, 3) := by decide +kernel
theorem dL_act_550 : decode cL_act 550 = .ok (.ifCond .le 21, 3) := by decide +kernel
theorem dL_act_553 : decode cL_act 553 = .ok (.aload_n 0, 1) := by decide +kernel
theorem dL_act_554 : decode cL_act 554 = .ok (.iload_n 3, 1) := by decide +kernel
theorem dL_act_555 : decode cL_act 555 = .ok (.iload 13, 2) := by decide +kernel
theorem dL_act_557 : decode cL_act 557 = .ok (.invokestatic 238, 3) := by decide +kernel
theorem dL_act_560 : decode cL_act 560 = .ok (.ldc 98, 2) := by decide +kernel
theorem dL_act_562 : decode cL_act 562 = .ok (.if_icmp .ne 7, 3) := by decide +kernel
theorem dL_act_565 : decode cL_act 565 = .ok (.iconst 2, 1) := by decide +kernel
theorem dL_act_566 : decode cL_act 566 = .ok (.goto 4, 3) := by decide +kernel
theorem dL_act_569 : decode cL_act 569 = .ok (.iconst 0, 1) := by decide +kernel
theorem dL_act_570 : decode cL_act 570 = .ok (.ireturn, 1) := by decide +kernel
theorem dL_act_571 : decode cL_act 571 = .ok (.aload 14, 2) := by decide +kernel
theorem dL_act_573 : decode cL_act 573 = .ok (.getfield 155, 3) := by decide +kernel
theorem dL_act_576 : decode cL_act 576 = .ok (.istore 15, 2) := by decide +kernel
theorem dL_act_578 : decode cL_act 578 = .ok (.aload 14, 2) := by decide +kernel
theorem dL_act_580 : decode cL_act 580 = .ok (.iload 13, 2) := by decide +kernel
theorem dL_act_582 : decode cL_act 582 = .ok (.putfield 155, 3) := by decide +kernel
theorem dL_act_585 : decode cL_act 585 = .ok (.aload_n 0, 1) := by decide +kernel
theorem dL_act_586 : decode cL_act 586 = .ok (.iload_n 3, 1) := by decide +kernel
theorem dL_act_587 : decode cL_act 587 = .ok (.iload 13, 2) := by decide +kernel
theorem dL_act_589 : decode cL_act 589 = .ok (.invokestatic 238, 3) := by decide +kernel
theorem dL_act_592 : decode cL_act 592 = .ok (.iload 15, 2) := by decide +kernel
theorem dL_act_594 : decode cL_act 594 = .ok (.if_icmp .ne 7, 3) := by decide +kernel
theorem dL_act_597 : decode cL_act 597 = .ok (.iconst 1, 1) := by decide +kernel
theorem dL_act_598 : decode cL_act 598 = .ok (.goto 4, 3) := by decide +kernel
theorem dL_act_601 : decode cL_act 601 = .ok (.iconst 0, 1) := by decide +kernel
theorem dL_act_602 : decode cL_act 602 = .ok (.ireturn, 1) := by decide +kernel
theorem dL_act_603 : decode cL_act 603 = .ok (.aload_n 2, 1) := by decide +kernel
theorem dL_act_604 : decode cL_act 604 = .ok (.iconst 3, 1) := by decide +kernel
theorem dL_act_605 : decode cL_act 605 = .ok (.invokevirtual 118, 3) := by decide +kernel
theorem dL_act_608 : decode cL_act 608 = .ok (.istore 16, 2) := by decide +kernel
theorem dL_act_610 : decode cL_act 610 = .ok (.aload_n 0, 1) := by decide +kernel
theorem dL_act_611 : decode cL_act 611 = .ok (.iload 16, 2) := by decide +kernel
theorem dL_act_613 : decode cL_act 613 = .ok (.invokestatic 240, 3) := by decide +kernel
theorem dL_act_616 : decode cL_act 616 = .ok (.aload_n 1, 1) := by decide +kernel
theorem dL_act_617 : decode cL_act 617 = .ok (.iload 16, 2) := by decide +kernel
theorem dL_act_619 : decode cL_act 619 = .ok (.invokevirtual 242, 3) := by decide +kernel
theorem dL_act_622 : decode cL_act 622 = .ok (.if_icmp .ne 7, 3) := by decide +kernel
theorem dL_act_625 : decode cL_act 625 = .ok (.iconst 1, 1) := by decide +kernel
theorem dL_act_626 : decode cL_act 626 = .ok (.goto 4, 3) := by decide +kernel
theorem dL_act_629 : decode cL_act 629 = .ok (.iconst 0, 1) := by decide +kernel
theorem dL_act_630 : decode cL_act 630 = .ok (.ireturn, 1) := by decide +kernel
theorem dL_act_631 : decode cL_act 631 = .ok (.iconst 1, 1) := by decide +kernel
theorem dL_act_632 : decode cL_act 632 = .ok (.aload_n 2, 1) := by decide +kernel
theorem dL_act_633 : decode cL_act 633 = .ok (.aload_n 2, 1) := by decide +kernel
theorem dL_act_634 : decode cL_act 634 = .ok (.iconst 4, 1) := by decide +kernel
theorem dL_act_635 : decode cL_act 635 = .ok (.invokevirtual 118, 3) := by decide +kernel
theorem dL_act_638 : decode cL_act 638 = .ok (.ifCond .ne 8, 3) := by decide +kernel
theorem dL_act_641 : decode cL_act 641 = .ok (.bipush 20, 2) := by decide +kernel
theorem dL_act_643 : decode cL_act 643 = .ok (.goto 4, 3) := by decide +kernel
theorem dL_act_646 : decode cL_act 646 = .ok (.iconst 3, 1) := by decide +kernel
theorem dL_act_647 : decode cL_act 647 = .ok (.invokevirtual 118, 3) := by decide +kernel
theorem dL_act_650 : decode cL_act 650 = .ok (.iadd, 1) := by decide +kernel
theorem dL_act_651 : decode cL_act 651 = .ok (.istore 17, 2) := by decide +kernel
theorem dL_act_653 : decode cL_act 653 = .ok (.aload_n 0, 1) := by decide +kernel
theorem dL_act_654 : decode cL_act 654 = .ok (.iload 17, 2) := by decide +kernel
theorem dL_act_656 : decode cL_act 656 = .ok (.invokestatic 243, 3) := by decide +kernel
theorem dL_act_659 : decode cL_act 659 = .ok (.aload_n 1, 1) := by decide +kernel
theorem dL_act_660 : decode cL_act 660 = .ok (.iload 17, 2) := by decide +kernel
theorem dL_act_662 : decode cL_act 662 = .ok (.invokevirtual 192, 3) := by decide +kernel
theorem dL_act_665 : decode cL_act 665 = .ok (.if_icmp .ne 7, 3) := by decide +kernel
theorem dL_act_668 : decode cL_act 668 = .ok (.iconst 1, 1) := by decide +kernel
theorem dL_act_669 : decode cL_act 669 = .ok (.goto 4, 3) := by decide +kernel
theorem dL_act_672 : decode cL_act 672 = .ok (.iconst 0, 1) := by decide +kernel
theorem dL_act_673 : decode cL_act 673 = .ok (.ireturn, 1) := by decide +kernel
theorem dL_agrees_0 : decode cL_agrees 0 = .ok (.aload_n 0, 1) := by decide +kernel
theorem dL_agrees_1 : decode cL_agrees 1 = .ok (.invokevirtual 245, 3) := by decide +kernel
theorem dL_agrees_4 : decode cL_agrees 4 = .ok (.aload_n 1, 1) := by decide +kernel
theorem dL_agrees_5 : decode cL_agrees 5 = .ok (.invokevirtual 249, 3) := by decide +kernel
theorem dL_agrees_8 : decode cL_agrees 8 = .ok (.lcmp, 1) := by decide +kernel
theorem dL_agrees_9 : decode cL_agrees 9 = .ok (.ifCond .ne 53, 3) := by decide +kernel
theorem dL_agrees_12 : decode cL_agrees 12 = .ok (.aload_n 0, 1) := by decide +kernel
theorem dL_agrees_13 : decode cL_agrees 13 = .ok (.invokevirtual 250, 3) := by decide +kernel
theorem dL_agrees_16 : decode cL_agrees 16 = .ok (.ifCond .ne 46, 3) := by decide +kernel
theorem dL_agrees_19 : decode cL_agrees 19 = .ok (.aload_n 0, 1) := by decide +kernel
theorem dL_agrees_20 : decode cL_agrees 20 = .ok (.bipush 16, 2) := by decide +kernel
theorem dL_agrees_22 : decode cL_agrees 22 = .ok (.invokestatic 253, 3) := by decide +kernel
theorem dL_agrees_25 : decode cL_agrees 25 = .ok (.ldc 42, 2) := by decide +kernel
theorem dL_agrees_27 : decode cL_agrees 27 = .ok (.if_icmp .ne 35, 3) := by decide +kernel
theorem dL_agrees_30 : decode cL_agrees 30 = .ok (.aload_n 0, 1) := by decide +kernel
theorem dL_agrees_31 : decode cL_agrees 31 = .ok (.aload_n 1, 1) := by decide +kernel
theorem dL_agrees_32 : decode cL_agrees 32 = .ok (.getfield 143, 3) := by decide +kernel
theorem dL_agrees_35 : decode cL_agrees 35 = .ok (.iconst 0, 1) := by decide +kernel
theorem dL_agrees_36 : decode cL_agrees 36 = .ok (.invokestatic 255, 3) := by decide +kernel
theorem dL_agrees_39 : decode cL_agrees 39 = .ok (.ldc 55, 2) := by decide +kernel
theorem dL_agrees_41 : decode cL_agrees 41 = .ok (.if_icmp .ne 21, 3) := by decide +kernel
theorem dL_agrees_44 : decode cL_agrees 44 = .ok (.aload_n 0, 1) := by decide +kernel
theorem dL_agrees_45 : decode cL_agrees 45 = .ok (.aload_n 1, 1) := by decide +kernel
theorem dL_agrees_46 : decode cL_agrees 46 = .ok (.getfield 163, 3) := by decide +kernel
theorem dL_agrees_49 : decode cL_agrees 49 = .ok (.iconst 0, 1) := by decide +kernel
theorem dL_agrees_50 : decode cL_agrees 50 = .ok (.invokestatic 257, 3) := by decide +kernel
theorem dL_agrees_53 : decode cL_agrees 53 = .ok (.ldc 55, 2) := by decide +kernel
theorem dL_agrees_55 : decode cL_agrees 55 = .ok (.if_icmp .ne 7, 3) := by decide +kernel
theorem dL_agrees_58 : decode cL_agrees 58 = .ok (.iconst 1, 1) := by decide +kernel
theorem dL_agrees_59 : decode cL_agrees 59 = .ok (.goto 4, 3) := by decide +kernel
theorem dL_agrees_62 : decode cL_agrees 62 = .ok (.iconst 0, 1) := by decide +kernel
theorem dL_agrees_63 : decode cL_agrees 63 = .ok (.istore_n 2, 1) := by decide +kernel
theorem dL_agrees_64 : decode cL_agrees 64 = .ok (.iconst 0, 1) := by decide +kernel
theorem dL_agrees_65 : decode cL_agrees 65 = .ok (.istore_n 3, 1) := by decide +kernel
theorem dL_agrees_66 : decode cL_agrees 66 = .ok (.iload_n 3, 1) := by decide +kernel
theorem dL_agrees_67 : decode cL_agrees 67 = .ok (.bipush 16, 2) := by decide +kernel
theorem dL_agrees_69 : decode cL_agrees 69 = .ok (.if_icmp .ge 32, 3) := by decide +kernel
theorem dL_agrees_72 : decode cL_agrees 72 = .ok (.iload_n 2, 1) := by decide +kernel
theorem dL_agrees_73 : decode cL_agrees 73 = .ok (.ifCond .eq 28, 3) := by decide +kernel
theorem dL_agrees_76 : decode cL_agrees 76 = .ok (.aload_n 0, 1) := by decide +kernel
theorem dL_agrees_77 : decode cL_agrees 77 = .ok (.iload_n 3, 1) := by decide +kernel
theorem dL_agrees_78 : decode cL_agrees 78 = .ok (.invokestatic 253, 3) := by decide +kernel
theorem dL_agrees_81 : decode cL_agrees 81 = .ok (.aload_n 1, 1) := by decide +kernel
theorem dL_agrees_82 : decode cL_agrees 82 = .ok (.iload_n 3, 1) := by decide +kernel
theorem dL_agrees_83 : decode cL_agrees 83 = .ok (.invokevirtual 259, 3) := by decide +kernel
theorem dL_agrees_86 : decode cL_agrees 86 = .ok (.if_icmp .ne 7, 3) := by decide +kernel
theorem dL_agrees_89 : decode cL_agrees 89 = .ok (.iconst 1, 1) := by decide +kernel
theorem dL_agrees_90 : decode cL_agrees 90 = .ok (.goto 4, 3) := by decide +kernel
theorem dL_agrees_93 : decode cL_agrees 93 = .ok (.iconst 0, 1) := by decide +kernel
theorem dL_agrees_94 : decode cL_agrees 94 = .ok (.istore_n 2, 1) := by decide +kernel
theorem dL_agrees_95 : decode cL_agrees 95 = .ok (.iinc 3 1, 3) := by decide +kernel
theorem dL_agrees_98 : decode cL_agrees 98 = .ok (.goto (-32), 3) := by decide +kernel
theorem dL_agrees_101 : decode cL_agrees 101 = .ok (.iload_n 2, 1) := by decide +kernel
theorem dL_agrees_102 : decode cL_agrees 102 = .ok (.ireturn, 1) := by decide +kernel
theorem dL_law_0 : decode cL_law 0 = .ok (.iconst 1, 1) := by decide +kernel
theorem dL_law_1 : decode cL_law 1 = .ok (.istore_n 1, 1) := by decide +kernel
theorem dL_law_2 : decode cL_law 2 = .ok (.iconst 0, 1) := by decide +kernel
theorem dL_law_3 : decode cL_law 3 = .ok (.istore_n 2, 1) := by decide +kernel
theorem dL_law_4 : decode cL_law 4 = .ok (.iload_n 2, 1) := by decide +kernel
theorem dL_law_5 : decode cL_law 5 = .ok (.aload_n 0, 1) := by decide +kernel
theorem dL_law_6 : decode cL_law 6 = .ok (.arraylength, 1) := by decide +kernel
theorem dL_law_7 : decode cL_law 7 = .ok (.if_icmp .ge 519, 3) := by decide +kernel
theorem dL_law_10 : decode cL_law 10 = .ok (.iload_n 2, 1) := by decide +kernel
theorem dL_law_11 : decode cL_law 11 = .ok (.iconst 3, 1) := by decide +kernel
theorem dL_law_12 : decode cL_law 12 = .ok (.if_icmp .ge 514, 3) := by decide +kernel
theorem dL_law_15 : decode cL_law 15 = .ok (.iload_n 1, 1) := by decide +kernel
theorem dL_law_16 : decode cL_law 16 = .ok (.ifCond .eq 510, 3) := by decide +kernel
theorem dL_law_19 : decode cL_law 19 = .ok (.new 14, 3) := by decide +kernel
theorem dL_law_22 : decode cL_law 22 = .ok (.dup, 1) := by decide +kernel
theorem dL_law_23 : decode cL_law 23 = .ok (.invokespecial 262, 3) := by decide +kernel
theorem dL_law_26 : decode cL_law 26 = .ok (.astore_n 3, 1) := by decide +kernel
theorem dL_law_27 : decode cL_law 27 = .ok (.bipush 8, 2) := by decide +kernel
theorem dL_law_29 : decode cL_law 29 = .ok (.newarray .int, 2) := by decide +kernel
theorem dL_law_31 : decode cL_law 31 = .ok (.astore 4, 2) := by decide +kernel
theorem dL_law_33 : decode cL_law 33 = .ok (.new 119, 3) := by decide +kernel
theorem dL_law_36 : decode cL_law 36 = .ok (.dup, 1) := by decide +kernel
theorem dL_law_37 : decode cL_law 37 = .ok (.aload_n 0, 1) := by decide +kernel
theorem dL_law_38 : decode cL_law 38 = .ok (.iload_n 2, 1) := by decide +kernel
theorem dL_law_39 : decode cL_law 39 = .ok (.iaload, 1) := by decide +kernel
theorem dL_law_40 : decode cL_law 40 = .ok (.invokespecial 263, 3) := by decide +kernel
theorem dL_law_43 : decode cL_law 43 = .ok (.astore 5, 2) := by decide +kernel
theorem dL_law_45 : decode cL_law 45 = .ok (.new 115, 3) := by decide +kernel
theorem dL_law_48 : decode cL_law 48 = .ok (.dup, 1) := by decide +kernel
theorem dL_law_49 : decode cL_law 49 = .ok (.invokespecial 117, 3) := by decide +kernel
theorem dL_law_52 : decode cL_law 52 = .ok (.astore 6, 2) := by decide +kernel
theorem dL_law_54 : decode cL_law 54 = .ok (.aload_n 3, 1) := by decide +kernel
theorem dL_law_55 : decode cL_law 55 = .ok (.invokevirtual 264, 3) := by decide +kernel
theorem dL_law_58 : decode cL_law 58 = .ok (.iconst (-1), 1) := by decide +kernel
theorem dL_law_59 : decode cL_law 59 = .ok (.if_icmp .ne 101, 3) := by decide +kernel
theorem dL_law_62 : decode cL_law 62 = .ok (.aload_n 3, 1) := by decide +kernel
theorem dL_law_63 : decode cL_law 63 = .ok (.invokevirtual 267, 3) := by decide +kernel
theorem dL_law_66 : decode cL_law 66 = .ok (.iconst (-1), 1) := by decide +kernel
theorem dL_law_67 : decode cL_law 67 = .ok (.if_icmp .ne 93, 3) := by decide +kernel
theorem dL_law_70 : decode cL_law 70 = .ok (.aload_n 3, 1) := by decide +kernel
theorem dL_law_71 : decode cL_law 71 = .ok (.aload 6, 2) := by decide +kernel
theorem dL_law_73 : decode cL_law 73 = .ok (.invokestatic 270, 3) := by decide +kernel
theorem dL_law_76 : decode cL_law 76 = .ok (.ifCond .eq 84, 3) := by decide +kernel
theorem dL_law_79 : decode cL_law 79 = .ok (.aload_n 3, 1) := by decide +kernel
theorem dL_law_80 : decode cL_law 80 = .ok (.iconst 0, 1) := by decide +kernel
theorem dL_law_81 : decode cL_law 81 = .ok (.iconst 0, 1) := by decide +kernel
theorem dL_law_82 : decode cL_law 82 = .ok (.iconst (-1), 1) := by decide +kernel
theorem dL_law_83 : decode cL_law 83 = .ok (.invokestatic 197, 3) := by decide +kernel
theorem dL_law_86 : decode cL_law 86 = .ok (.ldc 55, 2) := by decide +kernel
theorem dL_law_88 : decode cL_law 88 = .ok (.if_icmp .ne 72, 3) := by decide +kernel
theorem dL_law_91 : decode cL_law 91 = .ok (.aload_n 3, 1) := by decide +kernel
theorem dL_law_92 : decode cL_law 92 = .ok (.iconst 0, 1) := by decide +kernel
theorem dL_law_93 : decode cL_law 93 = .ok (.iconst 0, 1) := by decide +kernel
theorem dL_law_94 : decode cL_law 94 = .ok (.iconst 0, 1) := by decide +kernel
theorem dL_law_95 : decode cL_law 95 = .ok (.invokestatic 207, 3) := by decide +kernel
theorem dL_law_98 : decode cL_law 98 = .ok (.ldc 55, 2) := by decide +kernel
theorem dL_law_100 : decode cL_law 100 = .ok (.if_icmp .ne 60, 3) := by decide +kernel
theorem dL_law_103 : decode cL_law 103 = .ok (.aload_n 3, 1) := by decide +kernel
theorem dL_law_104 : decode cL_law 104 = .ok (.iconst 0, 1) := by decide +kernel
theorem dL_law_105 : decode cL_law 105 = .ok (.iconst 1, 1) := by decide +kernel
theorem dL_law_106 : decode cL_law 106 = .ok (.invokestatic 222, 3) := by decide +kernel
theorem dL_law_109 : decode cL_law 109 = .ok (.ldc 55, 2) := by decide +kernel
theorem dL_law_111 : decode cL_law 111 = .ok (.if_icmp .ne 49, 3) := by decide +kernel
theorem dL_law_114 : decode cL_law 114 = .ok (.aload_n 3, 1) := by decide +kernel
theorem dL_law_115 : decode cL_law 115 = .ok (.iconst 0, 1) := by decide +kernel
theorem dL_law_116 : decode cL_law 116 = .ok (.iconst 1, 1) := by decide +kernel
theorem dL_law_117 : decode cL_law 117 = .ok (.invokestatic 225, 3) := by decide +kernel
theorem dL_law_120 : decode cL_law 120 = .ok (.ldc 55, 2) := by decide +kernel
theorem dL_law_122 : decode cL_law 122 = .ok (.if_icmp .ne 38, 3) := by decide +kernel
theorem dL_law_125 : decode cL_law 125 = .ok (.aload_n 3, 1) := by decide +kernel
theorem dL_law_126 : decode cL_law 126 = .ok (.iconst 0, 1) := by decide +kernel
theorem dL_law_127 : decode cL_law 127 = .ok (.iconst 0, 1) := by decide +kernel
theorem dL_law_128 : decode cL_law 128 = .ok (.invokestatic 238, 3) := by decide +kernel
theorem dL_law_131 : decode cL_law 131 = .ok (.ldc 55, 2) := by decide +kernel
theorem dL_law_133 : decode cL_law 133 = .ok (.if_icmp .ne 27, 3) := by decide +kernel
theorem dL_law_136 : decode cL_law 136 = .ok (.aload_n 3, 1) := by decide +kernel
theorem dL_law_137 : decode cL_law 137 = .ok (.iconst 3, 1) := by decide +kernel
theorem dL_law_138 : decode cL_law 138 = .ok (.invokestatic 240, 3) := by decide +kernel
theorem dL_law_141 : decode cL_law 141 = .ok (.ldc 42, 2) := by decide +kernel
theorem dL_law_143 : decode cL_law 143 = .ok (.if_icmp .ne 17, 3) := by decide +kernel
theorem dL_law_146 : decode cL_law 146 = .ok (.aload_n 3, 1) := by decide +kernel
theorem dL_law_147 : decode cL_law 147 = .ok (.iconst 0, 1) := by decide +kernel
theorem dL_law_148 : decode cL_law 148 = .ok (.invokestatic 243, 3) := by decide +kernel
theorem dL_law_151 : decode cL_law 151 = .ok (.ldc 42, 2) := by decide +kernel
theorem dL_law_153 : decode cL_law 153 = .ok (.if_icmp .ne 7, 3) := by decide +kernel
theorem dL_law_156 : decode cL_law 156 = .ok (.iconst 1, 1) := by decide +kernel
theorem dL_law_157 : decode cL_law 157 = .ok (.goto 4, 3) := by decide +kernel
theorem dL_law_160 : decode cL_law 160 = .ok (.iconst 0, 1) := by decide +kernel
theorem dL_law_161 : decode cL_law 161 = .ok (.istore_n 1, 1) := by decide +kernel
theorem dL_law_162 : decode cL_law 162 = .ok (.aload_n 3, 1) := by decide +kernel
theorem dL_law_163 : decode cL_law 163 = .ok (.aload 4, 2) := by decide +kernel
theorem dL_law_165 : decode cL_law 165 = .ok (.aload 5, 2) := by decide +kernel
theorem dL_law_167 : decode cL_law 167 = .ok (.invokestatic 274, 3) := by decide +kernel
theorem dL_law_170 : decode cL_law 170 = .ok (.astore 6, 2) := by decide +kernel
theorem dL_law_172 : decode cL_law 172 = .ok (.aload 6, 2) := by decide +kernel
theorem dL_law_174 : decode cL_law 174 = .ok (.ifnonnull 5, 3) := by decide +kernel
theorem dL_law_177 : decode cL_law 177 = .ok (.iconst 0, 1) := by decide +kernel
theorem dL_law_178 : decode cL_law 178 = .ok (.ireturn, 1) := by decide +kernel
theorem dL_law_179 : decode cL_law 179 = .ok (.iload_n 1, 1) := by decide +kernel
theorem dL_law_180 : decode cL_law 180 = .ok (.ifCond .eq 16, 3) := by decide +kernel
theorem dL_law_183 : decode cL_law 183 = .ok (.aload_n 3, 1) := by decide +kernel
theorem dL_law_184 : decode cL_law 184 = .ok (.aload 6, 2) := by decide +kernel
theorem dL_law_186 : decode cL_law 186 = .ok (.invokestatic 270, 3) := by decide +kernel
theorem dL_law_189 : decode cL_law 189 = .ok (.ifCond .eq 7, 3) := by decide +kernel
theorem dL_law_192 : decode cL_law 192 = .ok (.iconst 1, 1) := by decide +kernel
theorem dL_law_193 : decode cL_law 193 = .ok (.goto 4, 3) := by decide +kernel
theorem dL_law_196 : decode cL_law 196 = .ok (.iconst 0, 1) := by decide +kernel
theorem dL_law_197 : decode cL_law 197 = .ok (.istore_n 1, 1) := by decide +kernel
theorem dL_law_198 : decode cL_law 198 = .ok (.bipush 40, 2) := by decide +kernel
theorem dL_law_200 : decode cL_law 200 = .ok (.anewarray 115, 3) := by decide +kernel
theorem dL_law_203 : decode cL_law 203 = .ok (.astore 7, 2) := by decide +kernel
theorem dL_law_205 : decode cL_law 205 = .ok (.iconst 0, 1) := by decide +kernel
theorem dL_law_206 : decode cL_law 206 = .ok (.istore 8, 2) := by decide +kernel
theorem dL_law_208 : decode cL_law 208 = .ok (.iconst 0, 1) := by decide +kernel
theorem dL_law_209 : decode cL_law 209 = .ok (.istore 9, 2) := by decide +kernel
theorem dL_law_211 : decode cL_law 211 = .ok (.iload 9, 2) := by decide +kernel
theorem dL_law_213 : decode cL_law 213 = .ok (.bipush 40, 2) := by decide +kernel
theorem dL_law_215 : decode cL_law 215 = .ok (.if_icmp .ge 62, 3) := by decide +kernel
theorem dL_law_218 : decode cL_law 218 = .ok (.iload_n 1, 1) := by decide +kernel
theorem dL_law_219 : decode cL_law 219 = .ok (.ifCond .eq 58, 3) := by decide +kernel
theorem dL_law_222 : decode cL_law 222 = .ok (.aload 7, 2) := by decide +kernel
theorem dL_law_224 : decode cL_law 224 = .ok (.iload 8, 2) := by decide +kernel
theorem dL_law_226 : decode cL_law 226 = .ok (.aload 6, 2) := by decide +kernel
theorem dL_law_228 : decode cL_law 228 = .ok (.invokevirtual 278, 3) := by decide +kernel
theorem dL_law_231 : decode cL_law 231 = .ok (.aastore, 1) := by decide +kernel
theorem dL_law_232 : decode cL_law 232 = .ok (.aload_n 3, 1) := by decide +kernel
theorem dL_law_233 : decode cL_law 233 = .ok (.aload 6, 2) := by decide +kernel
theorem dL_law_235 : decode cL_law 235 = .ok (.aload 5, 2) := by decide +kernel
theorem dL_law_237 : decode cL_law 237 = .ok (.invokestatic 282, 3) := by decide +kernel
theorem dL_law_240 : decode cL_law 240 = .ok (.istore 10, 2) := by decide +kernel
theorem dL_law_242 : decode cL_law 242 = .ok (.iload 10, 2) := by decide +kernel
theorem dL_law_244 : decode cL_law 244 = .ok (.iconst 1, 1) := by decide +kernel
theorem dL_law_245 : decode cL_law 245 = .ok (.if_icmp .ne 6, 3) := by decide +kernel
theorem dL_law_248 : decode cL_law 248 = .ok (.iinc 8 1, 3) := by decide +kernel
theorem dL_law_251 : decode cL_law 251 = .ok (.iload 10, 2) := by decide +kernel
theorem dL_law_253 : decode cL_law 253 = .ok (.ifCond .le 16, 3) := by decide +kernel
theorem dL_law_256 : decode cL_law 256 = .ok (.aload_n 3, 1) := by decide +kernel
theorem dL_law_257 : decode cL_law 257 = .ok (.aload 6, 2) := by decide +kernel
theorem dL_law_259 : decode cL_law 259 = .ok (.invokestatic 270, 3) := by decide +kernel
theorem dL_law_262 : decode cL_law 262 = .ok (.ifCond .eq 7, 3) := by decide +kernel
theorem dL_law_265 : decode cL_law 265 = .ok (.iconst 1, 1) := by decide +kernel
theorem dL_law_266 : decode cL_law 266 = .ok (.goto 4, 3) := by decide +kernel
theorem dL_law_269 : decode cL_law 269 = .ok (.iconst 0, 1) := by decide +kernel
theorem dL_law_270 : decode cL_law 270 = .ok (.istore_n 1, 1) := by decide +kernel
theorem dL_law_271 : decode cL_law 271 = .ok (.iinc 9 1, 3) := by decide +kernel
theorem dL_law_274 : decode cL_law 274 = .ok (.goto (-63), 3) := by decide +kernel
theorem dL_law_277 : decode cL_law 277 = .ok (.iconst 0, 1) := by decide +kernel
theorem dL_law_278 : decode cL_law 278 = .ok (.istore 9, 2) := by decide +kernel
theorem dL_law_280 : decode cL_law 280 = .ok (.iload 9, 2) := by decide +kernel
theorem dL_law_282 : decode cL_law 282 = .ok (.bipush 8, 2) := by decide +kernel
theorem dL_law_284 : decode cL_law 284 = .ok (.if_icmp .ge 46, 3) := by decide +kernel
theorem dL_law_287 : decode cL_law 287 = .ok (.iload 8, 2) := by decide +kernel
theorem dL_law_289 : decode cL_law 289 = .ok (.ifCond .le 41, 3) := by decide +kernel
theorem dL_law_292 : decode cL_law 292 = .ok (.iload_n 1, 1) := by decide +kernel
theorem dL_law_293 : decode cL_law 293 = .ok (.ifCond .eq 37, 3) := by decide +kernel
theorem dL_law_296 : decode cL_law 296 = .ok (.iinc 8 (-1), 3) := by decide +kernel
theorem dL_law_299 : decode cL_law 299 = .ok (.aload_n 3, 1) := by decide +kernel
theorem dL_law_300 : decode cL_law 300 = .ok (.invokevirtual 267, 3) := by decide +kernel
theorem dL_law_303 : decode cL_law 303 = .ok (.ifCond .lt 19, 3) := by decide +kernel
theorem dL_law_306 : decode cL_law 306 = .ok (.aload_n 3, 1) := by decide +kernel
theorem dL_law_307 : decode cL_law 307 = .ok (.aload 7, 2) := by decide +kernel
theorem dL_law_309 : decode cL_law 309 = .ok (.iload 8, 2) := by decide +kernel
theorem dL_law_311 : decode cL_law 311 = .ok (.aaload, 1) := by decide +kernel
theorem dL_law_312 : decode cL_law 312 = .ok (.invokestatic 270, 3) := by decide +kernel
theorem dL_law_315 : decode cL_law 315 = .ok (.ifCond .eq 7, 3) := by decide +kernel
theorem dL_law_318 : decode cL_law 318 = .ok (.iconst 1, 1) := by decide +kernel
theorem dL_law_319 : decode cL_law 319 = .ok (.goto 4, 3) := by decide +kernel
theorem dL_law_322 : decode cL_law 322 = .ok (.iconst 0, 1) := by decide +kernel
theorem dL_law_323 : decode cL_law 323 = .ok (.istore_n 1, 1) := by decide +kernel
theorem dL_law_324 : decode cL_law 324 = .ok (.iinc 9 1, 3) := by decide +kernel
theorem dL_law_327 : decode cL_law 327 = .ok (.goto (-47), 3) := by decide +kernel
theorem dL_law_330 : decode cL_law 330 = .ok (.iload_n 1, 1) := by decide +kernel
theorem dL_law_331 : decode cL_law 331 = .ok (.ifCond .eq 187, 3) := by decide +kernel
theorem dL_law_334 : decode cL_law 334 = .ok (.aload_n 3, 1) := by decide +kernel
theorem dL_law_335 : decode cL_law 335 = .ok (.sipush 501, 3) := by decide +kernel
theorem dL_law_338 : decode cL_law 338 = .ok (.invokestatic 19, 3) := by decide +kernel
theorem dL_law_341 : decode cL_law 341 = .ok (.ldc 42, 2) := by decide +kernel
theorem dL_law_343 : decode cL_law 343 = .ok (.if_icmp .ne 175, 3) := by decide +kernel
theorem dL_law_346 : decode cL_law 346 = .ok (.aload_n 3, 1) := by decide +kernel
theorem dL_law_347 : decode cL_law 347 = .ok (.sipush 501, 3) := by decide +kernel
theorem dL_law_350 : decode cL_law 350 = .ok (.invokestatic 286, 3) := by decide +kernel
theorem dL_law_353 : decode cL_law 353 = .ok (.ldc 42, 2) := by decide +kernel
theorem dL_law_355 : decode cL_law 355 = .ok (.if_icmp .ne 163, 3) := by decide +kernel
theorem dL_law_358 : decode cL_law 358 = .ok (.aload_n 3, 1) := by decide +kernel
theorem dL_law_359 : decode cL_law 359 = .ok (.iconst 0, 1) := by decide +kernel
theorem dL_law_360 : decode cL_law 360 = .ok (.iconst 2, 1) := by decide +kernel
theorem dL_law_361 : decode cL_law 361 = .ok (.iconst 0, 1) := by decide +kernel
theorem dL_law_362 : decode cL_law 362 = .ok (.invokestatic 288, 3) := by decide +kernel
theorem dL_law_365 : decode cL_law 365 = .ok (.ldc 42, 2) := by decide +kernel
theorem dL_law_367 : decode cL_law 367 = .ok (.if_icmp .ne 151, 3) := by decide +kernel
theorem dL_law_370 : decode cL_law 370 = .ok (.aload_n 3, 1) := by decide +kernel
theorem dL_law_371 : decode cL_law 371 = .ok (.iconst 0, 1) := by decide +kernel
theorem dL_law_372 : decode cL_law 372 = .ok (.iconst 0, 1) := by decide +kernel
theorem dL_law_373 : decode cL_law 373 = .ok (.iconst (-1), 1) := by decide +kernel
theorem dL_law_374 : decode cL_law 374 = .ok (.invokestatic 288, 3) := by decide +kernel
theorem dL_law_377 : decode cL_law 377 = .ok (.ldc 65, 2) := by decide +kernel
theorem dL_law_379 : decode cL_law 379 = .ok (.if_icmp .ne 139, 3) := by decide +kernel
theorem dL_law_382 : decode cL_law 382 = .ok (.aload_n 3, 1) := by decide +kernel
theorem dL_law_383 : decode cL_law 383 = .ok (.iconst 0, 1) := by decide +kernel
theorem dL_law_384 : decode cL_law 384 = .ok (.iconst 2, 1) := by decide +kernel
theorem dL_law_385 : decode cL_law 385 = .ok (.invokestatic 290, 3) := by decide +kernel
theorem dL_law_388 : decode cL_law 388 = .ok (.ldc 42, 2) := by decide +kernel
theorem dL_law_390 : decode cL_law 390 = .ok (.if_icmp .ne 128, 3) := by decide +kernel
theorem dL_law_393 : decode cL_law 393 = .ok (.aload_n 3, 1) := by decide +kernel
theorem dL_law_394 : decode cL_law 394 = .ok (.iconst 0, 1) := by decide +kernel
theorem dL_law_395 : decode cL_law 395 = .ok (.iconst 0, 1) := by decide +kernel
theorem dL_law_396 : decode cL_law 396 = .ok (.bipush (-2), 2) := by decide +kernel
theorem dL_law_398 : decode cL_law 398 = .ok (.invokestatic 292, 3) := by decide +kernel
theorem dL_law_401 : decode cL_law 401 = .ok (.ldc 55, 2) := by decide +kernel
theorem dL_law_403 : decode cL_law 403 = .ok (.if_icmp .ne 115, 3) := by decide +kernel
theorem dL_law_406 : decode cL_law 406 = .ok (.aload_n 3, 1) := by decide +kernel
theorem dL_law_407 : decode cL_law 407 = .ok (.iconst 0, 1) := by decide +kernel
theorem dL_law_408 : decode cL_law 408 = .ok (.iconst 2, 1) := by decide +kernel
theorem dL_law_409 : decode cL_law 409 = .ok (.iconst (-1), 1) := by decide +kernel
theorem dL_law_410 : decode cL_law 410 = .ok (.invokestatic 292, 3) := by decide +kernel
theorem dL_law_413 : decode cL_law 413 = .ok (.ldc 42, 2) := by decide +kernel
theorem dL_law_415 : decode cL_law 415 = .ok (.if_icmp .ne 103, 3) := by decide +kernel
theorem dL_law_418 : decode cL_law 418 = .ok (.aload_n 3, 1) := by decide +kernel
theorem dL_law_419 : decode cL_law 419 = .ok (.iconst (-1), 1) := by decide +kernel
theorem dL_law_420 : decode cL_law 420 = .ok (.invokestatic 294, 3) := by decide +kernel
theorem dL_law_423 : decode cL_law 423 = .ok (.ldc 42, 2) := by decide +kernel
theorem dL_law_425 : decode cL_law 425 = .ok (.if_icmp .ne 93, 3) := by decide +kernel
theorem dL_law_428 : decode cL_law 428 = .ok (.aload_n 3, 1) := by decide +kernel
theorem dL_law_429 : decode cL_law 429 = .ok (.iconst (-1), 1) := by decide +kernel
theorem dL_law_430 : decode cL_law 430 = .ok (.invokestatic 296, 3) := by decide +kernel
theorem dL_law_433 : decode cL_law 433 = .ok (.ldc 55, 2) := by decide +kernel
theorem dL_law_435 : decode cL_law 435 = .ok (.if_icmp .ne 83, 3) := by decide +kernel
theorem dL_law_438 : decode cL_law 438 = .ok (.aload_n 3, 1) := by decide +kernel
theorem dL_law_439 : decode cL_law 439 = .ok (.iconst (-1), 1) := by decide +kernel
theorem dL_law_440 : decode cL_law 440 = .ok (.invokestatic 298, 3) := by decide +kernel
theorem dL_law_443 : decode cL_law 443 = .ok (.ldc 55, 2) := by decide +kernel
theorem dL_law_445 : decode cL_law 445 = .ok (.if_icmp .ne 73, 3) := by decide +kernel
theorem dL_law_448 : decode cL_law 448 = .ok (.aload_n 3, 1) := by decide +kernel
theorem dL_law_449 : decode cL_law 449 = .ok (.sipush 201, 3) := by decide +kernel
theorem dL_law_452 : decode cL_law 452 = .ok (.invokestatic 300, 3) := by decide +kernel
theorem dL_law_455 : decode cL_law 455 = .ok (.ldc 42, 2) := by decide +kernel
theorem dL_law_457 : decode cL_law 457 = .ok (.if_icmp .ne 61, 3) := by decide +kernel
theorem dL_law_460 : decode cL_law 460 = .ok (.aload_n 3, 1) := by decide +kernel
theorem dL_law_461 : decode cL_law 461 = .ok (.iconst 0, 1) := by decide +kernel
theorem dL_law_462 : decode cL_law 462 = .ok (.invokestatic 302, 3) := by decide +kernel
theorem dL_law_465 : decode cL_law 465 = .ok (.ldc 42, 2) := by decide +kernel
theorem dL_law_467 : decode cL_law 467 = .ok (.if_icmp .ne 51, 3) := by decide +kernel
theorem dL_law_470 : decode cL_law 470 = .ok (.aload_n 3, 1) := by decide +kernel
theorem dL_law_471 : decode cL_law 471 = .ok (.iconst (-1), 1) := by decide +kernel
theorem dL_law_472 : decode cL_law 472 = .ok (.invokestatic 304, 3) := by decide +kernel
theorem dL_law_475 : decode cL_law 475 = .ok (.ldc 65, 2) := by decide +kernel
theorem dL_law_477 : decode cL_law 477 = .ok (.if_icmp .ne 41, 3) := by decide +kernel
theorem dL_law_480 : decode cL_law 480 = .ok (.aload_n 3, 1) := by decide +kernel
theorem dL_law_481 : decode cL_law 481 = .ok (.iconst 0, 1) := by decide +kernel
theorem dL_law_482 : decode cL_law 482 = .ok (.iconst 3, 1) := by decide +kernel
theorem dL_law_483 : decode cL_law 483 = .ok (.invokestatic 238, 3) := by decide +kernel
theorem dL_law_486 : decode cL_law 486 = .ok (.ldc 42, 2) := by decide +kernel
theorem dL_law_488 : decode cL_law 488 = .ok (.if_icmp .ne 30, 3) := by decide +kernel
theorem dL_law_491 : decode cL_law 491 = .ok (.aload_n 3, 1) := by decide +kernel
theorem dL_law_492 : decode cL_law 492 = .ok (.iconst 0, 1) := by decide +kernel
theorem dL_law_493 : decode cL_law 493 = .ok (.iconst 0, 1) := by decide +kernel
theorem dL_law_494 : decode cL_law 494 = .ok (.invokestatic 225, 3) := by decide +kernel
theorem dL_law_497 : decode cL_law 497 = .ok (.ldc 42, 2) := by decide +kernel
theorem dL_law_499 : decode cL_law 499 = .ok (.if_icmp .ne 19, 3) := by decide +kernel
theorem dL_law_502 : decode cL_law 502 = .ok (.aload_n 3, 1) := by decide +kernel
theorem dL_law_503 : decode cL_law 503 = .ok (.iconst 0, 1) := by decide +kernel
theorem dL_law_504 : decode cL_law 504 = .ok (.iconst 2, 1) := by decide +kernel
theorem dL_law_505 : decode cL_law 505 = .ok (.iconst (-1), 1) := by decide +kernel
theorem dL_law_506 : decode cL_law 506 = .ok (.invokestatic 197, 3) := by decide +kernel
theorem dL_law_509 : decode cL_law 509 = .ok (.ldc 42, 2) := by decide +kernel
theorem dL_law_511 : decode cL_law 511 = .ok (.if_icmp .ne 7, 3) := by decide +kernel
theorem dL_law_514 : decode cL_law 514 = .ok (.iconst 1, 1) := by decide +kernel
theorem dL_law_515 : decode cL_law 515 = .ok (.goto 4, 3) := by decide +kernel
theorem dL_law_518 : decode cL_law 518 = .ok (.iconst 0, 1) := by decide +kernel
theorem dL_law_519 : decode cL_law 519 = .ok (.istore_n 1, 1) := by decide +kernel
theorem dL_law_520 : decode cL_law 520 = .ok (.iinc 2 1, 3) := by decide +kernel
theorem dL_law_523 : decode cL_law 523 = .ok (.goto (-519), 3) := by decide +kernel
theorem dL_law_526 : decode cL_law 526 = .ok (.iload_n 1, 1) := by decide +kernel
theorem dL_law_527 : decode cL_law 527 = .ok (.ireturn, 1) := by decide +kernel
abbrev vwCl : List vw_C := [(RX0, TX0, 5), (RX1, TX1, 9), (RX2, TX2, 3), (RX3, TX3, 9), (RX4, TX4, 2), (RX5, TX5, 16), (RX6, TX6, 2), (RX7, TX7, 7), (RX8, TX8, 4), (RX9, TX9, 9), (RX10, TX10, 2), (RX11, TX11, 1), (RX12, TX12, 15)]
