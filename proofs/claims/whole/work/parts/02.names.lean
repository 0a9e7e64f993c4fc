/-! ===== BEGIN printed: names, fields, word lists, decode rows ===== -/
def RX0 : String := "GateRow$Card"
def TX0 : u_T := fun k => match k with
  | 0 => ("GateRow$Card", "name", "I", false)
  | 1 => ("GateRow$Card", "trips", "I", false)
  | 2 => ("GateRow$Card", "isInside", "Z", false)
  | 3 => ("GateRow$Card", "isListed", "Z", false)
  | _ => ("GateRow$Card", "passages", "I", false)
def tyX0 : Nat → FieldType := fun k => match k with
  | 0 => .int
  | 1 => .int
  | 2 => .boolean
  | 3 => .boolean
  | _ => .int
theorem nmX0 : ∀ a, a < 5 → ∀ b, b < 5 → a ≠ b → (TX0 a).2.1 ≠ (TX0 b).2.1 := by decide +kernel
theorem tyX0_ok : ∀ k, k < 5 → parseFieldDescriptor (TX0 k).2.2.1 = some (tyX0 k) := by decide +kernel
abbrev cX0_init : ByteArray := prog_2_method_1_code
def yX0_init : MethodName := ⟨RX0, "<init>", "()V"⟩
abbrev cX0_copyFrom : ByteArray := prog_2_method_2_code
def yX0_copyFrom : MethodName := ⟨RX0, "copyFrom", "(LGateRow$Card;)V"⟩
abbrev cX0_reasonAgainst : ByteArray := prog_2_method_3_code
def yX0_reasonAgainst : MethodName := ⟨RX0, "reasonAgainst", "(I)I"⟩
abbrev cX0_passFrom : ByteArray := prog_2_method_4_code
def yX0_passFrom : MethodName := ⟨RX0, "passFrom", "(I)V"⟩
def RX1 : String := "GateRow$Gate"
def TX1 : u_T := fun k => match k with
  | 0 => ("GateRow$Gate", "outerLine", "LGateRow$Line;", true)
  | 1 => ("GateRow$Gate", "innerLine", "LGateRow$Line;", true)
  | 2 => ("GateRow$Gate", "mode", "I", false)
  | 3 => ("GateRow$Gate", "openTicks", "I", false)
  | 4 => ("GateRow$Gate", "openSide", "I", false)
  | 5 => ("GateRow$Gate", "isSomebodyDue", "Z", false)
  | 6 => ("GateRow$Gate", "alarms", "I", false)
  | 7 => ("GateRow$Gate", "openings", "I", false)
  | _ => ("GateRow$Gate", "lastSide", "I", false)
def tyX1 : Nat → FieldType := fun k => match k with
  | 0 => .object "GateRow$Line"
  | 1 => .object "GateRow$Line"
  | 2 => .int
  | 3 => .int
  | 4 => .int
  | 5 => .boolean
  | 6 => .int
  | 7 => .int
  | _ => .int
theorem nmX1 : ∀ a, a < 9 → ∀ b, b < 9 → a ≠ b → (TX1 a).2.1 ≠ (TX1 b).2.1 := by decide +kernel
theorem tyX1_ok : ∀ k, k < 9 → parseFieldDescriptor (TX1 k).2.2.1 = some (tyX1 k) := by decide +kernel
abbrev cX1_init : ByteArray := prog_3_method_1_code
def yX1_init : MethodName := ⟨RX1, "<init>", "()V"⟩
abbrev cX1_copyFrom : ByteArray := prog_3_method_2_code
def yX1_copyFrom : MethodName := ⟨RX1, "copyFrom", "(LGateRow$Gate;)V"⟩
abbrev cX1_numberOfGate : ByteArray := prog_3_method_3_code
def yX1_numberOfGate : MethodName := ⟨RX1, "numberOfGate", "(I)I"⟩
abbrev cX1_lineOn : ByteArray := prog_3_method_4_code
def yX1_lineOn : MethodName := ⟨RX1, "lineOn", "(I)LGateRow$Line;"⟩
abbrev cX1_peopleInLines : ByteArray := prog_3_method_5_code
def yX1_peopleInLines : MethodName := ⟨RX1, "peopleInLines", "()I"⟩
abbrev cX1_serves : ByteArray := prog_3_method_6_code
def yX1_serves : MethodName := ⟨RX1, "serves", "(I)Z"⟩
abbrev cX1_servesInMode : ByteArray := prog_3_method_7_code
def yX1_servesInMode : MethodName := ⟨RX1, "servesInMode", "(II)Z"⟩
abbrev cX1_peopleNotServedIn : ByteArray := prog_3_method_8_code
def yX1_peopleNotServedIn : MethodName := ⟨RX1, "peopleNotServedIn", "(I)I"⟩
abbrev cX1_canTakeMode : ByteArray := prog_3_method_9_code
def yX1_canTakeMode : MethodName := ⟨RX1, "canTakeMode", "(I)Z"⟩
abbrev cX1_isOpen : ByteArray := prog_3_method_10_code
def yX1_isOpen : MethodName := ⟨RX1, "isOpen", "()Z"⟩
abbrev cX1_isFirstDueOn : ByteArray := prog_3_method_11_code
def yX1_isFirstDueOn : MethodName := ⟨RX1, "isFirstDueOn", "(I)Z"⟩
abbrev cX1_sideServedNext : ByteArray := prog_3_method_12_code
def yX1_sideServedNext : MethodName := ⟨RX1, "sideServedNext", "()I"⟩
abbrev cX1_openFor : ByteArray := prog_3_method_13_code
def yX1_openFor : MethodName := ⟨RX1, "openFor", "(II)V"⟩
abbrev cX1_closePaddles : ByteArray := prog_3_method_14_code
def yX1_closePaddles : MethodName := ⟨RX1, "closePaddles", "()V"⟩
def RX2 : String := "GateRow$History"
def TX2 : u_T := fun k => match k with
  | 0 => ("GateRow$History", "rows", "[LGateRow$Row;", true)
  | 1 => ("GateRow$History", "newest", "I", false)
  | _ => ("GateRow$History", "count", "I", false)
def tyX2 : Nat → FieldType := fun k => match k with
  | 0 => .array (.object "GateRow$Row")
  | 1 => .int
  | _ => .int
theorem nmX2 : ∀ a, a < 3 → ∀ b, b < 3 → a ≠ b → (TX2 a).2.1 ≠ (TX2 b).2.1 := by decide +kernel
theorem tyX2_ok : ∀ k, k < 3 → parseFieldDescriptor (TX2 k).2.2.1 = some (tyX2 k) := by decide +kernel
abbrev cX2_init : ByteArray := prog_4_method_1_code
def yX2_init : MethodName := ⟨RX2, "<init>", "()V"⟩
abbrev cX2_remember : ByteArray := prog_4_method_2_code
def yX2_remember : MethodName := ⟨RX2, "remember", "(LGateRow$Row;)V"⟩
abbrev cX2_takeBack : ByteArray := prog_4_method_3_code
def yX2_takeBack : MethodName := ⟨RX2, "takeBack", "(LGateRow$Row;)V"⟩
def RX3 : String := "GateRow$Input"
def TX3 : u_T := fun k => match k with
  | 0 => ("GateRow$Input", "bytes", "[B", true)
  | 1 => ("GateRow$Input", "filled", "I", false)
  | 2 => ("GateRow$Input", "end", "I", false)
  | 3 => ("GateRow$Input", "at", "I", false)
  | 4 => ("GateRow$Input", "kind", "I", false)
  | 5 => ("GateRow$Input", "start", "I", false)
  | 6 => ("GateRow$Input", "number", "I", false)
  | 7 => ("GateRow$Input", "letters", "I", false)
  | _ => ("GateRow$Input", "name", "I", false)
def tyX3 : Nat → FieldType := fun k => match k with
  | 0 => .array .byte
  | 1 => .int
  | 2 => .int
  | 3 => .int
  | 4 => .int
  | 5 => .int
  | 6 => .int
  | 7 => .int
  | _ => .int
theorem nmX3 : ∀ a, a < 9 → ∀ b, b < 9 → a ≠ b → (TX3 a).2.1 ≠ (TX3 b).2.1 := by decide +kernel
theorem tyX3_ok : ∀ k, k < 9 → parseFieldDescriptor (TX3 k).2.2.1 = some (tyX3 k) := by decide +kernel
abbrev cX3_init : ByteArray := prog_5_method_1_code
def yX3_init : MethodName := ⟨RX3, "<init>", "()V"⟩
abbrev cX3_addBytesOf : ByteArray := prog_5_method_2_code
def yX3_addBytesOf : MethodName := ⟨RX3, "addBytesOf", "(I)V"⟩
abbrev cX3_beginText : ByteArray := prog_5_method_3_code
def yX3_beginText : MethodName := ⟨RX3, "beginText", "(I)V"⟩
abbrev cX3_advance : ByteArray := prog_5_method_4_code
def yX3_advance : MethodName := ⟨RX3, "advance", "()V"⟩
abbrev cX3_readNumber : ByteArray := prog_5_method_5_code
def yX3_readNumber : MethodName := ⟨RX3, "readNumber", "()V"⟩
abbrev cX3_readWord : ByteArray := prog_5_method_6_code
def yX3_readWord : MethodName := ⟨RX3, "readWord", "()V"⟩
abbrev cX3_isWord : ByteArray := prog_5_method_7_code
def yX3_isWord : MethodName := ⟨RX3, "isWord", "(Ljava/lang/String;)Z"⟩
abbrev cX3_nameOfFirst : ByteArray := prog_5_method_8_code
def yX3_nameOfFirst : MethodName := ⟨RX3, "nameOfFirst", "(I)I"⟩
abbrev cX3_byteAt : ByteArray := prog_5_method_9_code
def yX3_byteAt : MethodName := ⟨RX3, "byteAt", "(I)I"⟩
abbrev cX3_nameWith : ByteArray := prog_5_method_10_code
def yX3_nameWith : MethodName := ⟨RX3, "nameWith", "(II)I"⟩
abbrev cX3_isDigit : ByteArray := prog_5_method_11_code
def yX3_isDigit : MethodName := ⟨RX3, "isDigit", "(I)Z"⟩
abbrev cX3_isLetter : ByteArray := prog_5_method_12_code
def yX3_isLetter : MethodName := ⟨RX3, "isLetter", "(I)Z"⟩
def RX4 : String := "GateRow$Line"
def TX4 : u_T := fun k => match k with
  | 0 => ("GateRow$Line", "people", "[I", true)
  | _ => ("GateRow$Line", "size", "I", false)
def tyX4 : Nat → FieldType := fun k => match k with
  | 0 => .array .int
  | _ => .int
theorem nmX4 : ∀ a, a < 2 → ∀ b, b < 2 → a ≠ b → (TX4 a).2.1 ≠ (TX4 b).2.1 := by decide +kernel
theorem tyX4_ok : ∀ k, k < 2 → parseFieldDescriptor (TX4 k).2.2.1 = some (tyX4 k) := by decide +kernel
abbrev cX4_init : ByteArray := prog_6_method_1_code
def yX4_init : MethodName := ⟨RX4, "<init>", "()V"⟩
abbrev cX4_copyFrom : ByteArray := prog_6_method_2_code
def yX4_copyFrom : MethodName := ⟨RX4, "copyFrom", "(LGateRow$Line;)V"⟩
abbrev cX4_isFull : ByteArray := prog_6_method_3_code
def yX4_isFull : MethodName := ⟨RX4, "isFull", "()Z"⟩
abbrev cX4_hasPlace : ByteArray := prog_6_method_4_code
def yX4_hasPlace : MethodName := ⟨RX4, "hasPlace", "(I)Z"⟩
abbrev cX4_cardAt : ByteArray := prog_6_method_5_code
def yX4_cardAt : MethodName := ⟨RX4, "cardAt", "(I)I"⟩
abbrev cX4_placeOf : ByteArray := prog_6_method_6_code
def yX4_placeOf : MethodName := ⟨RX4, "placeOf", "(I)I"⟩
abbrev cX4_firstPlaceWithCard : ByteArray := prog_6_method_7_code
def yX4_firstPlaceWithCard : MethodName := ⟨RX4, "firstPlaceWithCard", "()I"⟩
abbrev cX4_isFirstWithoutCard : ByteArray := prog_6_method_8_code
def yX4_isFirstWithoutCard : MethodName := ⟨RX4, "isFirstWithoutCard", "()Z"⟩
abbrev cX4_addLast : ByteArray := prog_6_method_9_code
def yX4_addLast : MethodName := ⟨RX4, "addLast", "(I)V"⟩
abbrev cX4_removeAt : ByteArray := prog_6_method_10_code
def yX4_removeAt : MethodName := ⟨RX4, "removeAt", "(I)I"⟩
abbrev cX4_bringToFront : ByteArray := prog_6_method_11_code
def yX4_bringToFront : MethodName := ⟨RX4, "bringToFront", "(I)V"⟩
def RX5 : String := "GateRow$Row"
def TX5 : u_T := fun k => match k with
  | 0 => ("GateRow$Row", "gates", "[LGateRow$Gate;", true)
  | 1 => ("GateRow$Row", "cards", "[LGateRow$Card;", true)
  | 2 => ("GateRow$Row", "gateCount", "I", false)
  | 3 => ("GateRow$Row", "cardCount", "I", false)
  | 4 => ("GateRow$Row", "hold", "I", false)
  | 5 => ("GateRow$Row", "flow", "I", false)
  | 6 => ("GateRow$Row", "keyBits", "I", false)
  | 7 => ("GateRow$Row", "ticks", "I", false)
  | 8 => ("GateRow$Row", "inside", "I", false)
  | 9 => ("GateRow$Row", "wentIn", "I", false)
  | 10 => ("GateRow$Row", "wentOut", "I", false)
  | 11 => ("GateRow$Row", "followers", "I", false)
  | 12 => ("GateRow$Row", "wentAway", "I", false)
  | 13 => ("GateRow$Row", "wentAwayInside", "I", false)
  | 14 => ("GateRow$Row", "refusedToJoin", "I", false)
  | _ => ("GateRow$Row", "wentOutInPanic", "I", false)
def tyX5 : Nat → FieldType := fun k => match k with
  | 0 => .array (.object "GateRow$Gate")
  | 1 => .array (.object "GateRow$Card")
  | 2 => .int
  | 3 => .int
  | 4 => .int
  | 5 => .int
  | 6 => .int
  | 7 => .int
  | 8 => .int
  | 9 => .int
  | 10 => .int
  | 11 => .int
  | 12 => .int
  | 13 => .int
  | 14 => .int
  | _ => .int
theorem nmX5 : ∀ a, a < 16 → ∀ b, b < 16 → a ≠ b → (TX5 a).2.1 ≠ (TX5 b).2.1 := by decide +kernel
theorem tyX5_ok : ∀ k, k < 16 → parseFieldDescriptor (TX5 k).2.2.1 = some (tyX5 k) := by decide +kernel
abbrev cX5_init : ByteArray := prog_7_method_1_code
def yX5_init : MethodName := ⟨RX5, "<init>", "()V"⟩
abbrev cX5_copyFrom : ByteArray := prog_7_method_2_code
def yX5_copyFrom : MethodName := ⟨RX5, "copyFrom", "(LGateRow$Row;)V"⟩
abbrev cX5_hasGate : ByteArray := prog_7_method_3_code
def yX5_hasGate : MethodName := ⟨RX5, "hasGate", "(I)Z"⟩
abbrev cX5_hasCard : ByteArray := prog_7_method_4_code
def yX5_hasCard : MethodName := ⟨RX5, "hasCard", "(I)Z"⟩
abbrev cX5_canTakeGate : ByteArray := prog_7_method_5_code
def yX5_canTakeGate : MethodName := ⟨RX5, "canTakeGate", "()Z"⟩
abbrev cX5_canTakeCard : ByteArray := prog_7_method_6_code
def yX5_canTakeCard : MethodName := ⟨RX5, "canTakeCard", "()Z"⟩
abbrev cX5_addGate : ByteArray := prog_7_method_7_code
def yX5_addGate : MethodName := ⟨RX5, "addGate", "(I)V"⟩
abbrev cX5_addCard : ByteArray := prog_7_method_8_code
def yX5_addCard : MethodName := ⟨RX5, "addCard", "(II)V"⟩
abbrev cX5_cardNamed : ByteArray := prog_7_method_9_code
def yX5_cardNamed : MethodName := ⟨RX5, "cardNamed", "(I)I"⟩
abbrev cX5_numberOfState : ByteArray := prog_7_method_10_code
def yX5_numberOfState : MethodName := ⟨RX5, "numberOfState", "(I)I"⟩
abbrev cX5_numberOfCard : ByteArray := prog_7_method_11_code
def yX5_numberOfCard : MethodName := ⟨RX5, "numberOfCard", "(II)I"⟩
abbrev cX5_gateWithInLine : ByteArray := prog_7_method_12_code
def yX5_gateWithInLine : MethodName := ⟨RX5, "gateWithInLine", "(I)I"⟩
abbrev cX5_sideInLine : ByteArray := prog_7_method_13_code
def yX5_sideInLine : MethodName := ⟨RX5, "sideInLine", "(I)I"⟩
abbrev cX5_placeInLine : ByteArray := prog_7_method_14_code
def yX5_placeInLine : MethodName := ⟨RX5, "placeInLine", "(I)I"⟩
abbrev cX5_peopleInAllLines : ByteArray := prog_7_method_15_code
def yX5_peopleInAllLines : MethodName := ⟨RX5, "peopleInAllLines", "()I"⟩
abbrev cX5_peopleInInnerLines : ByteArray := prog_7_method_16_code
def yX5_peopleInInnerLines : MethodName := ⟨RX5, "peopleInInnerLines", "()I"⟩
abbrev cX5_openGates : ByteArray := prog_7_method_17_code
def yX5_openGates : MethodName := ⟨RX5, "openGates", "()I"⟩
abbrev cX5_listedCards : ByteArray := prog_7_method_18_code
def yX5_listedCards : MethodName := ⟨RX5, "listedCards", "()I"⟩
abbrev cX5_cardsInTwoLines : ByteArray := prog_7_method_19_code
def yX5_cardsInTwoLines : MethodName := ⟨RX5, "cardsInTwoLines", "()I"⟩
abbrev cX5_peopleNotServed : ByteArray := prog_7_method_20_code
def yX5_peopleNotServed : MethodName := ⟨RX5, "peopleNotServed", "()I"⟩
abbrev cX5_gatesAheadOf : ByteArray := prog_7_method_21_code
def yX5_gatesAheadOf : MethodName := ⟨RX5, "gatesAheadOf", "(I)I"⟩
abbrev cX5_reasonNotToJoin : ByteArray := prog_7_method_22_code
def yX5_reasonNotToJoin : MethodName := ⟨RX5, "reasonNotToJoin", "(LGateRow$Gate;II)I"⟩
abbrev cX5_turnedKeys : ByteArray := prog_7_method_23_code
def yX5_turnedKeys : MethodName := ⟨RX5, "turnedKeys", "()I"⟩
abbrev cX5_isPanic : ByteArray := prog_7_method_24_code
def yX5_isPanic : MethodName := ⟨RX5, "isPanic", "()Z"⟩
abbrev cX5_turnKey : ByteArray := prog_7_method_25_code
def yX5_turnKey : MethodName := ⟨RX5, "turnKey", "(I)V"⟩
abbrev cX5_passTicks : ByteArray := prog_7_method_26_code
def yX5_passTicks : MethodName := ⟨RX5, "passTicks", "(I)V"⟩
abbrev cX5_letOutInPanic : ByteArray := prog_7_method_27_code
def yX5_letOutInPanic : MethodName := ⟨RX5, "letOutInPanic", "(LGateRow$Line;)V"⟩
abbrev cX5_letThroughPaddles : ByteArray := prog_7_method_28_code
def yX5_letThroughPaddles : MethodName := ⟨RX5, "letThroughPaddles", "(LGateRow$Gate;)V"⟩
abbrev cX5_goThrough : ByteArray := prog_7_method_29_code
def yX5_goThrough : MethodName := ⟨RX5, "goThrough", "(II)V"⟩
abbrev cX5_serveNext : ByteArray := prog_7_method_30_code
def yX5_serveNext : MethodName := ⟨RX5, "serveNext", "(LGateRow$Gate;)V"⟩
def RX6 : String := "GateRow$SetupReader"
def TX6 : u_T := fun k => match k with
  | 0 => ("GateRow$SetupReader", "error", "I", false)
  | _ => ("GateRow$SetupReader", "errorAt", "I", false)
def tyX6 : Nat → FieldType := fun k => match k with
  | 0 => .int
  | _ => .int
theorem nmX6 : ∀ a, a < 2 → ∀ b, b < 2 → a ≠ b → (TX6 a).2.1 ≠ (TX6 b).2.1 := by decide +kernel
theorem tyX6_ok : ∀ k, k < 2 → parseFieldDescriptor (TX6 k).2.2.1 = some (tyX6 k) := by decide +kernel
abbrev cX6_init : ByteArray := prog_8_method_1_code
def yX6_init : MethodName := ⟨RX6, "<init>", "()V"⟩
abbrev cX6_readSetup : ByteArray := prog_8_method_2_code
def yX6_readSetup : MethodName := ⟨RX6, "readSetup", "(LGateRow$Input;LGateRow$Row;)Z"⟩
abbrev cX6_readHead : ByteArray := prog_8_method_3_code
def yX6_readHead : MethodName := ⟨RX6, "readHead", "(LGateRow$Input;LGateRow$Row;)Z"⟩
abbrev cX6_readGate : ByteArray := prog_8_method_4_code
def yX6_readGate : MethodName := ⟨RX6, "readGate", "(LGateRow$Input;LGateRow$Row;)Z"⟩
abbrev cX6_readCard : ByteArray := prog_8_method_5_code
def yX6_readCard : MethodName := ⟨RX6, "readCard", "(LGateRow$Input;LGateRow$Row;)Z"⟩
abbrev cX6_readList : ByteArray := prog_8_method_6_code
def yX6_readList : MethodName := ⟨RX6, "readList", "(LGateRow$Input;LGateRow$Row;)Z"⟩
abbrev cX6_readWait : ByteArray := prog_8_method_7_code
def yX6_readWait : MethodName := ⟨RX6, "readWait", "(LGateRow$Input;LGateRow$Row;)Z"⟩
abbrev cX6_readTick : ByteArray := prog_8_method_8_code
def yX6_readTick : MethodName := ⟨RX6, "readTick", "(LGateRow$Input;LGateRow$Row;)Z"⟩
abbrev cX6_readKey : ByteArray := prog_8_method_9_code
def yX6_readKey : MethodName := ⟨RX6, "readKey", "(LGateRow$Input;LGateRow$Row;)Z"⟩
abbrev cX6_takeSemicolon : ByteArray := prog_8_method_10_code
def yX6_takeSemicolon : MethodName := ⟨RX6, "takeSemicolon", "(LGateRow$Input;)Z"⟩
abbrev cX6_takeNumber : ByteArray := prog_8_method_11_code
def yX6_takeNumber : MethodName := ⟨RX6, "takeNumber", "(LGateRow$Input;II)I"⟩
abbrev cX6_takeKnownCard : ByteArray := prog_8_method_12_code
def yX6_takeKnownCard : MethodName := ⟨RX6, "takeKnownCard", "(LGateRow$Input;LGateRow$Row;)I"⟩
abbrev cX6_isNameNext : ByteArray := prog_8_method_13_code
def yX6_isNameNext : MethodName := ⟨RX6, "isNameNext", "(LGateRow$Input;)Z"⟩
abbrev cX6_fail : ByteArray := prog_8_method_14_code
def yX6_fail : MethodName := ⟨RX6, "fail", "(II)Z"⟩
def RX7 : String := "GateRow"
def TX7 : u_T := fun k => match k with
  | 0 => ("GateRow", "input", "LGateRow$Input;", true)
  | 1 => ("GateRow", "reader", "LGateRow$SetupReader;", true)
  | 2 => ("GateRow", "now", "LGateRow$Row;", true)
  | 3 => ("GateRow", "blank", "LGateRow$Row;", true)
  | 4 => ("GateRow", "trial", "LGateRow$Row;", true)
  | 5 => ("GateRow", "history", "LGateRow$History;", true)
  | _ => ("GateRow", "errorAt", "I", false)
def tyX7 : Nat → FieldType := fun k => match k with
  | 0 => .object "GateRow$Input"
  | 1 => .object "GateRow$SetupReader"
  | 2 => .object "GateRow$Row"
  | 3 => .object "GateRow$Row"
  | 4 => .object "GateRow$Row"
  | 5 => .object "GateRow$History"
  | _ => .int
theorem nmX7 : ∀ a, a < 7 → ∀ b, b < 7 → a ≠ b → (TX7 a).2.1 ≠ (TX7 b).2.1 := by decide +kernel
theorem tyX7_ok : ∀ k, k < 7 → parseFieldDescriptor (TX7 k).2.2.1 = some (tyX7 k) := by decide +kernel
abbrev cX7_init : ByteArray := prog_1_method_1_code
def yX7_init : MethodName := ⟨RX7, "<init>", "()V"⟩
abbrev cX7_append : ByteArray := prog_1_method_2_code
def yX7_append : MethodName := ⟨RX7, "append", "(IIIII)I"⟩
abbrev cX7_load : ByteArray := prog_1_method_3_code
def yX7_load : MethodName := ⟨RX7, "load", "(I)I"⟩
abbrev cX7_errorOffset : ByteArray := prog_1_method_4_code
def yX7_errorOffset : MethodName := ⟨RX7, "errorOffset", "()I"⟩
abbrev cX7_state : ByteArray := prog_1_method_5_code
def yX7_state : MethodName := ⟨RX7, "state", "(I)I"⟩
abbrev cX7_find : ByteArray := prog_1_method_6_code
def yX7_find : MethodName := ⟨RX7, "find", "(I)I"⟩
abbrev cX7_gate : ByteArray := prog_1_method_7_code
def yX7_gate : MethodName := ⟨RX7, "gate", "(II)I"⟩
abbrev cX7_card : ByteArray := prog_1_method_8_code
def yX7_card : MethodName := ⟨RX7, "card", "(II)I"⟩
abbrev cX7_inLine : ByteArray := prog_1_method_9_code
def yX7_inLine : MethodName := ⟨RX7, "inLine", "(III)I"⟩
abbrev cX7_why : ByteArray := prog_1_method_10_code
def yX7_why : MethodName := ⟨RX7, "why", "(II)I"⟩
abbrev cX7_whyNotJoin : ByteArray := prog_1_method_11_code
def yX7_whyNotJoin : MethodName := ⟨RX7, "whyNotJoin", "(III)I"⟩
abbrev cX7_bestGate : ByteArray := prog_1_method_12_code
def yX7_bestGate : MethodName := ⟨RX7, "bestGate", "(I)I"⟩
abbrev cX7_nextSide : ByteArray := prog_1_method_13_code
def yX7_nextSide : MethodName := ⟨RX7, "nextSide", "(I)I"⟩
abbrev cX7_throughIn : ByteArray := prog_1_method_14_code
def yX7_throughIn : MethodName := ⟨RX7, "throughIn", "(I)I"⟩
abbrev cX7_insideIn : ByteArray := prog_1_method_15_code
def yX7_insideIn : MethodName := ⟨RX7, "insideIn", "(I)I"⟩
abbrev cX7_followersIn : ByteArray := prog_1_method_16_code
def yX7_followersIn : MethodName := ⟨RX7, "followersIn", "(I)I"⟩
abbrev cX7_outInPanic : ByteArray := prog_1_method_17_code
def yX7_outInPanic : MethodName := ⟨RX7, "outInPanic", "()I"⟩
abbrev cX7_ranked : ByteArray := prog_1_method_18_code
def yX7_ranked : MethodName := ⟨RX7, "ranked", "(I)I"⟩
abbrev cX7_gap : ByteArray := prog_1_method_19_code
def yX7_gap : MethodName := ⟨RX7, "gap", "()I"⟩
abbrev cX7_followerShare : ByteArray := prog_1_method_20_code
def yX7_followerShare : MethodName := ⟨RX7, "followerShare", "()F"⟩
abbrev cX7_join : ByteArray := prog_1_method_21_code
def yX7_join : MethodName := ⟨RX7, "join", "(III)I"⟩
abbrev cX7_leave : ByteArray := prog_1_method_22_code
def yX7_leave : MethodName := ⟨RX7, "leave", "(III)I"⟩
abbrev cX7_list : ByteArray := prog_1_method_23_code
def yX7_list : MethodName := ⟨RX7, "list", "(IZ)I"⟩
abbrev cX7_charge : ByteArray := prog_1_method_24_code
def yX7_charge : MethodName := ⟨RX7, "charge", "(II)I"⟩
abbrev cX7_mode : ByteArray := prog_1_method_25_code
def yX7_mode : MethodName := ⟨RX7, "mode", "(II)I"⟩
abbrev cX7_key : ByteArray := prog_1_method_26_code
def yX7_key : MethodName := ⟨RX7, "key", "(I)I"⟩
abbrev cX7_tick : ByteArray := prog_1_method_27_code
def yX7_tick : MethodName := ⟨RX7, "tick", "(I)I"⟩
abbrev cX7_undo : ByteArray := prog_1_method_28_code
def yX7_undo : MethodName := ⟨RX7, "undo", "()I"⟩
abbrev cX7_checksum : ByteArray := prog_1_method_29_code
def yX7_checksum : MethodName := ⟨RX7, "checksum", "()J"⟩
abbrev cX7_withLine : ByteArray := prog_1_method_30_code
def yX7_withLine : MethodName := ⟨RX7, "withLine", "(JLGateRow$Line;)J"⟩
abbrev cX7_requireBuffered : ByteArray := prog_1_method_31_code
def yX7_requireBuffered : MethodName := ⟨RX7, "requireBuffered", "(I)V"⟩
abbrev cX7_requireGate : ByteArray := prog_1_method_32_code
def yX7_requireGate : MethodName := ⟨RX7, "requireGate", "(I)V"⟩
abbrev cX7_requireCard : ByteArray := prog_1_method_33_code
def yX7_requireCard : MethodName := ⟨RX7, "requireCard", "(I)V"⟩
abbrev cX7_requireCardOrNone : ByteArray := prog_1_method_34_code
def yX7_requireCardOrNone : MethodName := ⟨RX7, "requireCardOrNone", "(I)V"⟩
abbrev cX7_requireSide : ByteArray := prog_1_method_35_code
def yX7_requireSide : MethodName := ⟨RX7, "requireSide", "(I)V"⟩
abbrev cX7_requireTicks : ByteArray := prog_1_method_36_code
def yX7_requireTicks : MethodName := ⟨RX7, "requireTicks", "(II)V"⟩
def RX8 : String := "GateRowModel"
def TX8 : u_T := fun k => match k with
  | 0 => ("GateRowModel", "thrown", "I", false)
  | 1 => ("GateRowModel", "buffer", "[I", true)
  | 2 => ("GateRowModel", "bufferLength", "I", false)
  | 3 => ("GateRowModel", "textLength", "I", false)
  | 4 => ("GateRowModel", "position", "I", false)
  | 5 => ("GateRowModel", "error", "I", false)
  | 6 => ("GateRowModel", "errorAt", "I", false)
  | 7 => ("GateRowModel", "errorOffset", "I", false)
  | 8 => ("GateRowModel", "data", "[I", true)
  | 9 => ("GateRowModel", "draft", "[I", true)
  | 10 => ("GateRowModel", "aside", "[I", true)
  | 11 => ("GateRowModel", "history", "[[I", true)
  | 12 => ("GateRowModel", "undoDepth", "I", false)
  | 13 => ("GateRowModel", "numberStart", "I", false)
  | 14 => ("GateRowModel", "nameAt", "I", false)
  | _ => ("GateRowModel", "nameLength", "I", false)
def tyX8 : Nat → FieldType := fun k => match k with
  | 0 => .int
  | 1 => .array .int
  | 2 => .int
  | 3 => .int
  | 4 => .int
  | 5 => .int
  | 6 => .int
  | 7 => .int
  | 8 => .array .int
  | 9 => .array .int
  | 10 => .array .int
  | 11 => .array (.array .int)
  | 12 => .int
  | 13 => .int
  | 14 => .int
  | _ => .int
theorem nmX8 : ∀ a, a < 16 → ∀ b, b < 16 → a ≠ b → (TX8 a).2.1 ≠ (TX8 b).2.1 := by decide +kernel
theorem tyX8_ok : ∀ k, k < 16 → parseFieldDescriptor (TX8 k).2.2.1 = some (tyX8 k) := by decide +kernel
abbrev cX8_init : ByteArray := prog_10_method_1_code
def yX8_init : MethodName := ⟨RX8, "<init>", "()V"⟩
abbrev cX8_thrown : ByteArray := prog_10_method_2_code
def yX8_thrown : MethodName := ⟨RX8, "thrown", "()I"⟩
abbrev cX8_fails : ByteArray := prog_10_method_3_code
def yX8_fails : MethodName := ⟨RX8, "fails", "(ZI)Z"⟩
abbrev cX8_in : ByteArray := prog_10_method_4_code
def yX8_in : MethodName := ⟨RX8, "in", "(III)Z"⟩
abbrev cX8_min : ByteArray := prog_10_method_5_code
def yX8_min : MethodName := ⟨RX8, "min", "(II)I"⟩
abbrev cX8_max : ByteArray := prog_10_method_6_code
def yX8_max : MethodName := ⟨RX8, "max", "(II)I"⟩
abbrev cX8_size : ByteArray := prog_10_method_7_code
def yX8_size : MethodName := ⟨RX8, "size", "(I)I"⟩
abbrev cX8_copy : ByteArray := prog_10_method_8_code
def yX8_copy : MethodName := ⟨RX8, "copy", "([I[I)V"⟩
abbrev cX8_gateAt : ByteArray := prog_10_method_9_code
def yX8_gateAt : MethodName := ⟨RX8, "gateAt", "(II)I"⟩
abbrev cX8_cardAt : ByteArray := prog_10_method_10_code
def yX8_cardAt : MethodName := ⟨RX8, "cardAt", "(II)I"⟩
abbrev cX8_placeAt : ByteArray := prog_10_method_11_code
def yX8_placeAt : MethodName := ⟨RX8, "placeAt", "(III)I"⟩
abbrev cX8_many : ByteArray := prog_10_method_12_code
def yX8_many : MethodName := ⟨RX8, "many", "([III)I"⟩
abbrev cX8_inLines : ByteArray := prog_10_method_13_code
def yX8_inLines : MethodName := ⟨RX8, "inLines", "([II)I"⟩
abbrev cX8_serves : ByteArray := prog_10_method_14_code
def yX8_serves : MethodName := ⟨RX8, "serves", "(II)Z"⟩
abbrev cX8_takes : ByteArray := prog_10_method_15_code
def yX8_takes : MethodName := ⟨RX8, "takes", "([IIII)I"⟩
abbrev cX8_whereIs : ByteArray := prog_10_method_16_code
def yX8_whereIs : MethodName := ⟨RX8, "whereIs", "([III)I"⟩
abbrev cX8_against : ByteArray := prog_10_method_17_code
def yX8_against : MethodName := ⟨RX8, "against", "([IIII)I"⟩
abbrev cX8_joins : ByteArray := prog_10_method_18_code
def yX8_joins : MethodName := ⟨RX8, "joins", "([IIII)I"⟩
abbrev cX8_refusal : ByteArray := prog_10_method_19_code
def yX8_refusal : MethodName := ⟨RX8, "refusal", "([III)I"⟩
abbrev cX8_keys : ByteArray := prog_10_method_20_code
def yX8_keys : MethodName := ⟨RX8, "keys", "([I)I"⟩
abbrev cX8_isPanic : ByteArray := prog_10_method_21_code
def yX8_isPanic : MethodName := ⟨RX8, "isPanic", "([I)Z"⟩
abbrev cX8_goes : ByteArray := prog_10_method_22_code
def yX8_goes : MethodName := ⟨RX8, "goes", "([IIIZ)V"⟩
abbrev cX8_turnOf : ByteArray := prog_10_method_23_code
def yX8_turnOf : MethodName := ⟨RX8, "turnOf", "([II)I"⟩
abbrev cX8_flees : ByteArray := prog_10_method_24_code
def yX8_flees : MethodName := ⟨RX8, "flees", "([II)V"⟩
abbrev cX8_passes : ByteArray := prog_10_method_25_code
def yX8_passes : MethodName := ⟨RX8, "passes", "([II)V"⟩
abbrev cX8_opens : ByteArray := prog_10_method_26_code
def yX8_opens : MethodName := ⟨RX8, "opens", "([II)V"⟩
abbrev cX8_lives : ByteArray := prog_10_method_27_code
def yX8_lives : MethodName := ⟨RX8, "lives", "([II)V"⟩
abbrev cX8_turns : ByteArray := prog_10_method_28_code
def yX8_turns : MethodName := ⟨RX8, "turns", "([II)I"⟩
abbrev cX8_fits : ByteArray := prog_10_method_29_code
def yX8_fits : MethodName := ⟨RX8, "fits", "([II)V"⟩
abbrev cX8_append : ByteArray := prog_10_method_30_code
def yX8_append : MethodName := ⟨RX8, "append", "(IIIII)I"⟩
abbrev cX8_byteAt : ByteArray := prog_10_method_31_code
def yX8_byteAt : MethodName := ⟨RX8, "byteAt", "(I)I"⟩
abbrev cX8_ahead : ByteArray := prog_10_method_32_code
def yX8_ahead : MethodName := ⟨RX8, "ahead", "()I"⟩
abbrev cX8_isGood : ByteArray := prog_10_method_33_code
def yX8_isGood : MethodName := ⟨RX8, "isGood", "()Z"⟩
abbrev cX8_report : ByteArray := prog_10_method_34_code
def yX8_report : MethodName := ⟨RX8, "report", "(II)V"⟩
abbrev cX8_isDigit : ByteArray := prog_10_method_35_code
def yX8_isDigit : MethodName := ⟨RX8, "isDigit", "(I)Z"⟩
abbrev cX8_takeWord : ByteArray := prog_10_method_36_code
def yX8_takeWord : MethodName := ⟨RX8, "takeWord", "(Ljava/lang/String;)Z"⟩
abbrev cX8_expect : ByteArray := prog_10_method_37_code
def yX8_expect : MethodName := ⟨RX8, "expect", "(I)V"⟩
abbrev cX8_number : ByteArray := prog_10_method_38_code
def yX8_number : MethodName := ⟨RX8, "number", "(II)I"⟩
abbrev cX8_called : ByteArray := prog_10_method_39_code
def yX8_called : MethodName := ⟨RX8, "called", "([III)I"⟩
abbrev cX8_name : ByteArray := prog_10_method_40_code
def yX8_name : MethodName := ⟨RX8, "name", "()Z"⟩
abbrev cX8_known : ByteArray := prog_10_method_41_code
def yX8_known : MethodName := ⟨RX8, "known", "()I"⟩
abbrev cX8_readGate : ByteArray := prog_10_method_42_code
def yX8_readGate : MethodName := ⟨RX8, "readGate", "()V"⟩
abbrev cX8_readCard : ByteArray := prog_10_method_43_code
def yX8_readCard : MethodName := ⟨RX8, "readCard", "()V"⟩
abbrev cX8_readList : ByteArray := prog_10_method_44_code
def yX8_readList : MethodName := ⟨RX8, "readList", "()V"⟩
abbrev cX8_readWait : ByteArray := prog_10_method_45_code
def yX8_readWait : MethodName := ⟨RX8, "readWait", "()V"⟩
abbrev cX8_statement : ByteArray := prog_10_method_46_code
def yX8_statement : MethodName := ⟨RX8, "statement", "()V"⟩
abbrev cX8_load : ByteArray := prog_10_method_47_code
def yX8_load : MethodName := ⟨RX8, "load", "(I)I"⟩
abbrev cX8_errorOffset : ByteArray := prog_10_method_48_code
def yX8_errorOffset : MethodName := ⟨RX8, "errorOffset", "()I"⟩
abbrev cX8_open : ByteArray := prog_10_method_49_code
def yX8_open : MethodName := ⟨RX8, "open", "()I"⟩
abbrev cX8_told : ByteArray := prog_10_method_50_code
def yX8_told : MethodName := ⟨RX8, "told", "(I)I"⟩
abbrev cX8_state : ByteArray := prog_10_method_51_code
def yX8_state : MethodName := ⟨RX8, "state", "(I)I"⟩
abbrev cX8_find : ByteArray := prog_10_method_52_code
def yX8_find : MethodName := ⟨RX8, "find", "(I)I"⟩
abbrev cX8_noGate : ByteArray := prog_10_method_53_code
def yX8_noGate : MethodName := ⟨RX8, "noGate", "(I)Z"⟩
abbrev cX8_noCard : ByteArray := prog_10_method_54_code
def yX8_noCard : MethodName := ⟨RX8, "noCard", "(I)Z"⟩
abbrev cX8_noSide : ByteArray := prog_10_method_55_code
def yX8_noSide : MethodName := ⟨RX8, "noSide", "(II)Z"⟩
abbrev cX8_ofGate : ByteArray := prog_10_method_56_code
def yX8_ofGate : MethodName := ⟨RX8, "ofGate", "(II)I"⟩
abbrev cX8_gate : ByteArray := prog_10_method_57_code
def yX8_gate : MethodName := ⟨RX8, "gate", "(II)I"⟩
abbrev cX8_ofCard : ByteArray := prog_10_method_58_code
def yX8_ofCard : MethodName := ⟨RX8, "ofCard", "(II)I"⟩
abbrev cX8_card : ByteArray := prog_10_method_59_code
def yX8_card : MethodName := ⟨RX8, "card", "(II)I"⟩
abbrev cX8_inLine : ByteArray := prog_10_method_60_code
def yX8_inLine : MethodName := ⟨RX8, "inLine", "(III)I"⟩
abbrev cX8_why : ByteArray := prog_10_method_61_code
def yX8_why : MethodName := ⟨RX8, "why", "(II)I"⟩
abbrev cX8_noJoin : ByteArray := prog_10_method_62_code
def yX8_noJoin : MethodName := ⟨RX8, "noJoin", "(III)Z"⟩
abbrev cX8_whyNotJoin : ByteArray := prog_10_method_63_code
def yX8_whyNotJoin : MethodName := ⟨RX8, "whyNotJoin", "(III)I"⟩
abbrev cX8_bestGate : ByteArray := prog_10_method_64_code
def yX8_bestGate : MethodName := ⟨RX8, "bestGate", "(I)I"⟩
abbrev cX8_nextSide : ByteArray := prog_10_method_65_code
def yX8_nextSide : MethodName := ⟨RX8, "nextSide", "(I)I"⟩
abbrev cX8_throughIn : ByteArray := prog_10_method_66_code
def yX8_throughIn : MethodName := ⟨RX8, "throughIn", "(I)I"⟩
abbrev cX8_insideIn : ByteArray := prog_10_method_67_code
def yX8_insideIn : MethodName := ⟨RX8, "insideIn", "(I)I"⟩
abbrev cX8_followersIn : ByteArray := prog_10_method_68_code
def yX8_followersIn : MethodName := ⟨RX8, "followersIn", "(I)I"⟩
abbrev cX8_outInPanic : ByteArray := prog_10_method_69_code
def yX8_outInPanic : MethodName := ⟨RX8, "outInPanic", "()I"⟩
abbrev cX8_ranked : ByteArray := prog_10_method_70_code
def yX8_ranked : MethodName := ⟨RX8, "ranked", "(I)I"⟩
abbrev cX8_lines : ByteArray := prog_10_method_71_code
def yX8_lines : MethodName := ⟨RX8, "lines", "(I)I"⟩
abbrev cX8_gap : ByteArray := prog_10_method_72_code
def yX8_gap : MethodName := ⟨RX8, "gap", "()I"⟩
abbrev cX8_followerShare : ByteArray := prog_10_method_73_code
def yX8_followerShare : MethodName := ⟨RX8, "followerShare", "()F"⟩
abbrev cX8_remember : ByteArray := prog_10_method_74_code
def yX8_remember : MethodName := ⟨RX8, "remember", "()V"⟩
abbrev cX8_join : ByteArray := prog_10_method_75_code
def yX8_join : MethodName := ⟨RX8, "join", "(III)I"⟩
abbrev cX8_leave : ByteArray := prog_10_method_76_code
def yX8_leave : MethodName := ⟨RX8, "leave", "(III)I"⟩
abbrev cX8_list : ByteArray := prog_10_method_77_code
def yX8_list : MethodName := ⟨RX8, "list", "(IZ)I"⟩
abbrev cX8_charge : ByteArray := prog_10_method_78_code
def yX8_charge : MethodName := ⟨RX8, "charge", "(II)I"⟩
abbrev cX8_mode : ByteArray := prog_10_method_79_code
def yX8_mode : MethodName := ⟨RX8, "mode", "(II)I"⟩
abbrev cX8_key : ByteArray := prog_10_method_80_code
def yX8_key : MethodName := ⟨RX8, "key", "(I)I"⟩
abbrev cX8_tick : ByteArray := prog_10_method_81_code
def yX8_tick : MethodName := ⟨RX8, "tick", "(I)I"⟩
abbrev cX8_undo : ByteArray := prog_10_method_82_code
def yX8_undo : MethodName := ⟨RX8, "undo", "()I"⟩
abbrev cX8_checksum : ByteArray := prog_10_method_83_code
def yX8_checksum : MethodName := ⟨RX8, "checksum", "()J"⟩
def RJx145de : String := "java/io/Serializable"
def TJx145de : u_T := fun k => match k with
  | _ => ("", "", "", false)
def tyJx145de : Nat → FieldType := fun k => match k with
  | _ => .int
theorem nmJx145de : ∀ a, a < 0 → ∀ b, b < 0 → a ≠ b → (TJx145de a).2.1 ≠ (TJx145de b).2.1 := by decide +kernel
theorem tyJx145de_ok : ∀ k, k < 0 → parseFieldDescriptor (TJx145de k).2.2.1 = some (tyJx145de k) := by decide +kernel
def RJx9f9b0 : String := "java/lang/CharSequence"
def TJx9f9b0 : u_T := fun k => match k with
  | _ => ("", "", "", false)
def tyJx9f9b0 : Nat → FieldType := fun k => match k with
  | _ => .int
theorem nmJx9f9b0 : ∀ a, a < 0 → ∀ b, b < 0 → a ≠ b → (TJx9f9b0 a).2.1 ≠ (TJx9f9b0 b).2.1 := by decide +kernel
theorem tyJx9f9b0_ok : ∀ k, k < 0 → parseFieldDescriptor (TJx9f9b0 k).2.2.1 = some (tyJx9f9b0 k) := by decide +kernel
def RJxb160c : String := "java/lang/Comparable"
def TJxb160c : u_T := fun k => match k with
  | _ => ("", "", "", false)
def tyJxb160c : Nat → FieldType := fun k => match k with
  | _ => .int
theorem nmJxb160c : ∀ a, a < 0 → ∀ b, b < 0 → a ≠ b → (TJxb160c a).2.1 ≠ (TJxb160c b).2.1 := by decide +kernel
theorem tyJxb160c_ok : ∀ k, k < 0 → parseFieldDescriptor (TJxb160c k).2.2.1 = some (tyJxb160c k) := by decide +kernel
def RJ6 : String := "java/lang/Integer"
def TJ6 : u_T := fun k => match k with
  | _ => ("", "", "", false)
def tyJ6 : Nat → FieldType := fun k => match k with
  | _ => .int
theorem nmJ6 : ∀ a, a < 0 → ∀ b, b < 0 → a ≠ b → (TJ6 a).2.1 ≠ (TJ6 b).2.1 := by decide +kernel
theorem tyJ6_ok : ∀ k, k < 0 → parseFieldDescriptor (TJ6 k).2.2.1 = some (tyJ6 k) := by decide +kernel
abbrev cJ6_bitCount_0f7a4 : ByteArray := prog_18_method_49_code
def yJ6_bitCount_0f7a4 : MethodName := ⟨RJ6, "bitCount", "(I)I"⟩
def RJ9 : String := "java/lang/Math"
def TJ9 : u_T := fun k => match k with
  | _ => ("", "", "", false)
def tyJ9 : Nat → FieldType := fun k => match k with
  | _ => .int
theorem nmJ9 : ∀ a, a < 0 → ∀ b, b < 0 → a ≠ b → (TJ9 a).2.1 ≠ (TJ9 b).2.1 := by decide +kernel
theorem tyJ9_ok : ∀ k, k < 0 → parseFieldDescriptor (TJ9 k).2.2.1 = some (tyJ9 k) := by decide +kernel
abbrev cJ9_abs_0f7a4 : ByteArray := prog_19_method_59_code
def yJ9_abs_0f7a4 : MethodName := ⟨RJ9, "abs", "(I)I"⟩
abbrev cJ9_max_7cf53 : ByteArray := prog_19_method_65_code
def yJ9_max_7cf53 : MethodName := ⟨RJ9, "max", "(II)I"⟩
abbrev cJ9_min_7cf53 : ByteArray := prog_19_method_69_code
def yJ9_min_7cf53 : MethodName := ⟨RJ9, "min", "(II)I"⟩
def RJ0 : String := "java/lang/String"
def TJ0 : u_T := fun k => match k with
  | _ => ("", "", "", false)
def tyJ0 : Nat → FieldType := fun k => match k with
  | _ => .int
theorem nmJ0 : ∀ a, a < 0 → ∀ b, b < 0 → a ≠ b → (TJ0 a).2.1 ≠ (TJ0 b).2.1 := by decide +kernel
theorem tyJ0_ok : ∀ k, k < 0 → parseFieldDescriptor (TJ0 k).2.2.1 = some (tyJ0 k) := by decide +kernel
abbrev cJ0_length_8abf5 : ByteArray := prog_21_method_54_code
def yJ0_length_8abf5 : MethodName := ⟨RJ0, "length", "()I"⟩
abbrev cJ0_charAt_5068e : ByteArray := prog_21_method_56_code
def yJ0_charAt_5068e : MethodName := ⟨RJ0, "charAt", "(I)C"⟩
abbrev cJ0_coder_7d493 : ByteArray := prog_21_method_152_code
def yJ0_coder_7d493 : MethodName := ⟨RJ0, "coder", "()B"⟩
abbrev cJ0_isLatin1_aae02 : ByteArray := prog_21_method_154_code
def yJ0_isLatin1_aae02 : MethodName := ⟨RJ0, "isLatin1", "()Z"⟩
abbrev cJ0_checkIndex_df160 : ByteArray := prog_21_method_155_code
def yJ0_checkIndex_df160 : MethodName := ⟨RJ0, "checkIndex", "(II)V"⟩
def RJ1 : String := "java/lang/StringLatin1"
def TJ1 : u_T := fun k => match k with
  | _ => ("", "", "", false)
def tyJ1 : Nat → FieldType := fun k => match k with
  | _ => .int
theorem nmJ1 : ∀ a, a < 0 → ∀ b, b < 0 → a ≠ b → (TJ1 a).2.1 ≠ (TJ1 b).2.1 := by decide +kernel
theorem tyJ1_ok : ∀ k, k < 0 → parseFieldDescriptor (TJ1 k).2.2.1 = some (tyJ1 k) := by decide +kernel
abbrev cJ1_charAt_3b067 : ByteArray := prog_22_method_2_code
def yJ1_charAt_3b067 : MethodName := ⟨RJ1, "charAt", "([BI)C"⟩
def RJ2 : String := "java/lang/StringUTF16"
def TJ2 : u_T := fun k => match k with
  | _ => ("", "", "", false)
def tyJ2 : Nat → FieldType := fun k => match k with
  | _ => .int
theorem nmJ2 : ∀ a, a < 0 → ∀ b, b < 0 → a ≠ b → (TJ2 a).2.1 ≠ (TJ2 b).2.1 := by decide +kernel
theorem tyJ2_ok : ∀ k, k < 0 → parseFieldDescriptor (TJ2 k).2.2.1 = some (tyJ2 k) := by decide +kernel
abbrev cJ2_getChar_3b067 : ByteArray := prog_23_method_5_code
def yJ2_getChar_3b067 : MethodName := ⟨RJ2, "getChar", "([BI)C"⟩
abbrev cJ2_length_9d52b : ByteArray := prog_23_method_6_code
def yJ2_length_9d52b : MethodName := ⟨RJ2, "length", "([B)I"⟩
abbrev cJ2_charAt_3b067 : ByteArray := prog_23_method_83_code
def yJ2_charAt_3b067 : MethodName := ⟨RJ2, "charAt", "([BI)C"⟩
abbrev cJ2_checkIndex_2214a : ByteArray := prog_23_method_91_code
def yJ2_checkIndex_2214a : MethodName := ⟨RJ2, "checkIndex", "(I[B)V"⟩
def RJxfd54e : String := "java/lang/constant/Constable"
def TJxfd54e : u_T := fun k => match k with
  | _ => ("", "", "", false)
def tyJxfd54e : Nat → FieldType := fun k => match k with
  | _ => .int
theorem nmJxfd54e : ∀ a, a < 0 → ∀ b, b < 0 → a ≠ b → (TJxfd54e a).2.1 ≠ (TJxfd54e b).2.1 := by decide +kernel
theorem tyJxfd54e_ok : ∀ k, k < 0 → parseFieldDescriptor (TJxfd54e k).2.2.1 = some (tyJxfd54e k) := by decide +kernel
def RJx3cf43 : String := "java/lang/constant/ConstantDesc"
def TJx3cf43 : u_T := fun k => match k with
  | _ => ("", "", "", false)
def tyJx3cf43 : Nat → FieldType := fun k => match k with
  | _ => .int
theorem nmJx3cf43 : ∀ a, a < 0 → ∀ b, b < 0 → a ≠ b → (TJx3cf43 a).2.1 ≠ (TJx3cf43 b).2.1 := by decide +kernel
theorem tyJx3cf43_ok : ∀ k, k < 0 → parseFieldDescriptor (TJx3cf43 k).2.2.1 = some (tyJx3cf43 k) := by decide +kernel
def RJ3 : String := "jdk/internal/util/Preconditions"
def TJ3 : u_T := fun k => match k with
  | _ => ("", "", "", false)
def tyJ3 : Nat → FieldType := fun k => match k with
  | _ => .int
theorem nmJ3 : ∀ a, a < 0 → ∀ b, b < 0 → a ≠ b → (TJ3 a).2.1 ≠ (TJ3 b).2.1 := by decide +kernel
theorem tyJ3_ok : ∀ k, k < 0 → parseFieldDescriptor (TJ3 k).2.2.1 = some (tyJ3 k) := by decide +kernel
abbrev cJ3_checkIndex_8e157 : ByteArray := prog_28_method_11_code
def yJ3_checkIndex_8e157 : MethodName := ⟨RJ3, "checkIndex", "(IILjava/util/function/BiFunction;)I"⟩
def RL : String := "GateRowLaw"
abbrev cL_load : ByteArray := method_3_code
def yL_load : MethodName := ⟨RL, "load", "(LGateRow;I[J)I"⟩
abbrev cL_state : ByteArray := method_4_code
def yL_state : MethodName := ⟨RL, "state", "(LGateRow;I[J)I"⟩
abbrev cL_find : ByteArray := method_5_code
def yL_find : MethodName := ⟨RL, "find", "(LGateRow;I[J)I"⟩
abbrev cL_gate : ByteArray := method_6_code
def yL_gate : MethodName := ⟨RL, "gate", "(LGateRow;II[J)I"⟩
abbrev cL_card : ByteArray := method_7_code
def yL_card : MethodName := ⟨RL, "card", "(LGateRow;II[J)I"⟩
abbrev cL_inLine : ByteArray := method_8_code
def yL_inLine : MethodName := ⟨RL, "inLine", "(LGateRow;III[J)I"⟩
abbrev cL_why : ByteArray := method_9_code
def yL_why : MethodName := ⟨RL, "why", "(LGateRow;II[J)I"⟩
abbrev cL_whyNotJoin : ByteArray := method_10_code
def yL_whyNotJoin : MethodName := ⟨RL, "whyNotJoin", "(LGateRow;III[J)I"⟩
abbrev cL_bestGate : ByteArray := method_11_code
def yL_bestGate : MethodName := ⟨RL, "bestGate", "(LGateRow;I[J)I"⟩
abbrev cL_nextSide : ByteArray := method_12_code
def yL_nextSide : MethodName := ⟨RL, "nextSide", "(LGateRow;I[J)I"⟩
abbrev cL_throughIn : ByteArray := method_13_code
def yL_throughIn : MethodName := ⟨RL, "throughIn", "(LGateRow;I[J)I"⟩
abbrev cL_insideIn : ByteArray := method_14_code
def yL_insideIn : MethodName := ⟨RL, "insideIn", "(LGateRow;I[J)I"⟩
abbrev cL_followersIn : ByteArray := method_15_code
def yL_followersIn : MethodName := ⟨RL, "followersIn", "(LGateRow;I[J)I"⟩
abbrev cL_ranked : ByteArray := method_16_code
def yL_ranked : MethodName := ⟨RL, "ranked", "(LGateRow;I[J)I"⟩
abbrev cL_join : ByteArray := method_17_code
def yL_join : MethodName := ⟨RL, "join", "(LGateRow;III[J)I"⟩
abbrev cL_leave : ByteArray := method_18_code
def yL_leave : MethodName := ⟨RL, "leave", "(LGateRow;III[J)I"⟩
abbrev cL_list : ByteArray := method_19_code
def yL_list : MethodName := ⟨RL, "list", "(LGateRow;IZ[J)I"⟩
abbrev cL_charge : ByteArray := method_20_code
def yL_charge : MethodName := ⟨RL, "charge", "(LGateRow;II[J)I"⟩
abbrev cL_mode : ByteArray := method_21_code
def yL_mode : MethodName := ⟨RL, "mode", "(LGateRow;II[J)I"⟩
abbrev cL_key : ByteArray := method_22_code
def yL_key : MethodName := ⟨RL, "key", "(LGateRow;I[J)I"⟩
abbrev cL_tick : ByteArray := method_23_code
def yL_tick : MethodName := ⟨RL, "tick", "(LGateRow;I[J)I"⟩
abbrev cL_law : ByteArray := code
def yL_law : MethodName := ⟨RL, "law", "([I)Z"⟩
theorem dX0_init_0 : decode cX0_init 0 = .ok (.aload_n 0, 1) := by decide +kernel
theorem dX0_init_1 : decode cX0_init 1 = .ok (.invokespecial 3, 3) := by decide +kernel
theorem dX0_init_4 : decode cX0_init 4 = .ok (.return_, 1) := by decide +kernel
theorem dX0_copyFrom_0 : decode cX0_copyFrom 0 = .ok (.aload_n 0, 1) := by decide +kernel
theorem dX0_copyFrom_1 : decode cX0_copyFrom 1 = .ok (.aload_n 1, 1) := by decide +kernel
theorem dX0_copyFrom_2 : decode cX0_copyFrom 2 = .ok (.getfield 9, 3) := by decide +kernel
theorem dX0_copyFrom_5 : decode cX0_copyFrom 5 = .ok (.putfield 9, 3) := by decide +kernel
theorem dX0_copyFrom_8 : decode cX0_copyFrom 8 = .ok (.aload_n 0, 1) := by decide +kernel
theorem dX0_copyFrom_9 : decode cX0_copyFrom 9 = .ok (.aload_n 1, 1) := by decide +kernel
theorem dX0_copyFrom_10 : decode cX0_copyFrom 10 = .ok (.getfield 15, 3) := by decide +kernel
theorem dX0_copyFrom_13 : decode cX0_copyFrom 13 = .ok (.putfield 15, 3) := by decide +kernel
theorem dX0_copyFrom_16 : decode cX0_copyFrom 16 = .ok (.aload_n 0, 1) := by decide +kernel
theorem dX0_copyFrom_17 : decode cX0_copyFrom 17 = .ok (.aload_n 1, 1) := by decide +kernel
theorem dX0_copyFrom_18 : decode cX0_copyFrom 18 = .ok (.getfield 18, 3) := by decide +kernel
theorem dX0_copyFrom_21 : decode cX0_copyFrom 21 = .ok (.putfield 18, 3) := by decide +kernel
theorem dX0_copyFrom_24 : decode cX0_copyFrom 24 = .ok (.aload_n 0, 1) := by decide +kernel
theorem dX0_copyFrom_25 : decode cX0_copyFrom 25 = .ok (.aload_n 1, 1) := by decide +kernel
theorem dX0_copyFrom_26 : decode cX0_copyFrom 26 = .ok (.getfield 22, 3) := by decide +kernel
theorem dX0_copyFrom_29 : decode cX0_copyFrom 29 = .ok (.putfield 22, 3) := by decide +kernel
theorem dX0_copyFrom_32 : decode cX0_copyFrom 32 = .ok (.aload_n 0, 1) := by decide +kernel
theorem dX0_copyFrom_33 : decode cX0_copyFrom 33 = .ok (.aload_n 1, 1) := by decide +kernel
theorem dX0_copyFrom_34 : decode cX0_copyFrom 34 = .ok (.getfield 25, 3) := by decide +kernel
theorem dX0_copyFrom_37 : decode cX0_copyFrom 37 = .ok (.putfield 25, 3) := by decide +kernel
theorem dX0_copyFrom_40 : decode cX0_copyFrom 40 = .ok (.return_, 1) := by decide +kernel
theorem dX0_reasonAgainst_0 : decode cX0_reasonAgainst 0 = .ok (.aload_n 0, 1) := by decide +kernel
theorem dX0_reasonAgainst_1 : decode cX0_reasonAgainst 1 = .ok (.getfield 22, 3) := by decide +kernel
theorem dX0_reasonAgainst_4 : decode cX0_reasonAgainst 4 = .ok (.ifCond .eq 5, 3) := by decide +kernel
theorem dX0_reasonAgainst_7 : decode cX0_reasonAgainst 7 = .ok (.iconst 1, 1) := by decide +kernel
theorem dX0_reasonAgainst_8 : decode cX0_reasonAgainst 8 = .ok (.ireturn, 1) := by decide +kernel
theorem dX0_reasonAgainst_9 : decode cX0_reasonAgainst 9 = .ok (.aload_n 0, 1) := by decide +kernel
theorem dX0_reasonAgainst_10 : decode cX0_reasonAgainst 10 = .ok (.getfield 18, 3) := by decide +kernel
theorem dX0_reasonAgainst_13 : decode cX0_reasonAgainst 13 = .ok (.iload_n 1, 1) := by decide +kernel
theorem dX0_reasonAgainst_14 : decode cX0_reasonAgainst 14 = .ok (.iconst 1, 1) := by decide +kernel
theorem dX0_reasonAgainst_15 : decode cX0_reasonAgainst 15 = .ok (.if_icmp .ne 7, 3) := by decide +kernel
theorem dX0_reasonAgainst_18 : decode cX0_reasonAgainst 18 = .ok (.iconst 1, 1) := by decide +kernel
theorem dX0_reasonAgainst_19 : decode cX0_reasonAgainst 19 = .ok (.goto 4, 3) := by decide +kernel
theorem dX0_reasonAgainst_22 : decode cX0_reasonAgainst 22 = .ok (.iconst 0, 1) := by decide +kernel
theorem dX0_reasonAgainst_23 : decode cX0_reasonAgainst 23 = .ok (.if_icmp .eq 5, 3) := by decide +kernel
theorem dX0_reasonAgainst_26 : decode cX0_reasonAgainst 26 = .ok (.iconst 2, 1) := by decide +kernel
theorem dX0_reasonAgainst_27 : decode cX0_reasonAgainst 27 = .ok (.ireturn, 1) := by decide +kernel
theorem dX0_reasonAgainst_28 : decode cX0_reasonAgainst 28 = .ok (.iload_n 1, 1) := by decide +kernel
theorem dX0_reasonAgainst_29 : decode cX0_reasonAgainst 29 = .ok (.ifCond .ne 12, 3) := by decide +kernel
theorem dX0_reasonAgainst_32 : decode cX0_reasonAgainst 32 = .ok (.aload_n 0, 1) := by decide +kernel
theorem dX0_reasonAgainst_33 : decode cX0_reasonAgainst 33 = .ok (.getfield 15, 3) := by decide +kernel
theorem dX0_reasonAgainst_36 : decode cX0_reasonAgainst 36 = .ok (.ifCond .ne 5, 3) := by decide +kernel
theorem dX0_reasonAgainst_39 : decode cX0_reasonAgainst 39 = .ok (.iconst 3, 1) := by decide +kernel
theorem dX0_reasonAgainst_40 : decode cX0_reasonAgainst 40 = .ok (.ireturn, 1) := by decide +kernel
theorem dX0_reasonAgainst_41 : decode cX0_reasonAgainst 41 = .ok (.iconst 0, 1) := by decide +kernel
theorem dX0_reasonAgainst_42 : decode cX0_reasonAgainst 42 = .ok (.ireturn, 1) := by decide +kernel
theorem dX0_passFrom_0 : decode cX0_passFrom 0 = .ok (.aload_n 0, 1) := by decide +kernel
theorem dX0_passFrom_1 : decode cX0_passFrom 1 = .ok (.iload_n 1, 1) := by decide +kernel
theorem dX0_passFrom_2 : decode cX0_passFrom 2 = .ok (.ifCond .ne 7, 3) := by decide +kernel
theorem dX0_passFrom_5 : decode cX0_passFrom 5 = .ok (.iconst 1, 1) := by decide +kernel
theorem dX0_passFrom_6 : decode cX0_passFrom 6 = .ok (.goto 4, 3) := by decide +kernel
theorem dX0_passFrom_9 : decode cX0_passFrom 9 = .ok (.iconst 0, 1) := by decide +kernel
theorem dX0_passFrom_10 : decode cX0_passFrom 10 = .ok (.putfield 18, 3) := by decide +kernel
theorem dX0_passFrom_13 : decode cX0_passFrom 13 = .ok (.iload_n 1, 1) := by decide +kernel
theorem dX0_passFrom_14 : decode cX0_passFrom 14 = .ok (.ifCond .ne 13, 3) := by decide +kernel
theorem dX0_passFrom_17 : decode cX0_passFrom 17 = .ok (.aload_n 0, 1) := by decide +kernel
theorem dX0_passFrom_18 : decode cX0_passFrom 18 = .ok (.dup, 1) := by decide +kernel
theorem dX0_passFrom_19 : decode cX0_passFrom 19 = .ok (.getfield 15, 3) := by decide +kernel
theorem dX0_passFrom_22 : decode cX0_passFrom 22 = .ok (.iconst 1, 1) := by decide +kernel
theorem dX0_passFrom_23 : decode cX0_passFrom 23 = .ok (.isub, 1) := by decide +kernel
theorem dX0_passFrom_24 : decode cX0_passFrom 24 = .ok (.putfield 15, 3) := by decide +kernel
theorem dX0_passFrom_27 : decode cX0_passFrom 27 = .ok (.aload_n 0, 1) := by decide +kernel
theorem dX0_passFrom_28 : decode cX0_passFrom 28 = .ok (.dup, 1) := by decide +kernel
theorem dX0_passFrom_29 : decode cX0_passFrom 29 = .ok (.getfield 25, 3) := by decide +kernel
theorem dX0_passFrom_32 : decode cX0_passFrom 32 = .ok (.iconst 1, 1) := by decide +kernel
theorem dX0_passFrom_33 : decode cX0_passFrom 33 = .ok (.iadd, 1) := by decide +kernel
theorem dX0_passFrom_34 : decode cX0_passFrom 34 = .ok (.putfield 25, 3) := by decide +kernel
theorem dX0_passFrom_37 : decode cX0_passFrom 37 = .ok (.return_, 1) := by decide +kernel
theorem dX1_init_0 : decode cX1_init 0 = .ok (.aload_n 0, 1) := by decide +kernel
theorem dX1_init_1 : decode cX1_init 1 = .ok (.invokespecial 3, 3) := by decide +kernel
theorem dX1_init_4 : decode cX1_init 4 = .ok (.aload_n 0, 1) := by decide +kernel
theorem dX1_init_5 : decode cX1_init 5 = .ok (.new 9, 3) := by decide +kernel
theorem dX1_init_8 : decode cX1_init 8 = .ok (.dup, 1) := by decide +kernel
theorem dX1_init_9 : decode cX1_init 9 = .ok (.invokespecial 11, 3) := by decide +kernel
theorem dX1_init_12 : decode cX1_init 12 = .ok (.putfield 12, 3) := by decide +kernel
theorem dX1_init_15 : decode cX1_init 15 = .ok (.aload_n 0, 1) := by decide +kernel
theorem dX1_init_16 : decode cX1_init 16 = .ok (.new 9, 3) := by decide +kernel
theorem dX1_init_19 : decode cX1_init 19 = .ok (.dup, 1) := by decide +kernel
theorem dX1_init_20 : decode cX1_init 20 = .ok (.invokespecial 11, 3) := by decide +kernel
theorem dX1_init_23 : decode cX1_init 23 = .ok (.putfield 18, 3) := by decide +kernel
theorem dX1_init_26 : decode cX1_init 26 = .ok (.aload_n 0, 1) := by decide +kernel
theorem dX1_init_27 : decode cX1_init 27 = .ok (.iconst (-1), 1) := by decide +kernel
theorem dX1_init_28 : decode cX1_init 28 = .ok (.putfield 21, 3) := by decide +kernel
theorem dX1_init_31 : decode cX1_init 31 = .ok (.aload_n 0, 1) := by decide +kernel
theorem dX1_init_32 : decode cX1_init 32 = .ok (.iconst (-1), 1) := by decide +kernel
theorem dX1_init_33 : decode cX1_init 33 = .ok (.putfield 25, 3) := by decide +kernel
theorem dX1_init_36 : decode cX1_init 36 = .ok (.return_, 1) := by decide +kernel
theorem dX1_copyFrom_0 : decode cX1_copyFrom 0 = .ok (.aload_n 0, 1) := by decide +kernel
theorem dX1_copyFrom_1 : decode cX1_copyFrom 1 = .ok (.getfield 12, 3) := by decide +kernel
theorem dX1_copyFrom_4 : decode cX1_copyFrom 4 = .ok (.aload_n 1, 1) := by decide +kernel
theorem dX1_copyFrom_5 : decode cX1_copyFrom 5 = .ok (.getfield 12, 3) := by decide +kernel
theorem dX1_copyFrom_8 : decode cX1_copyFrom 8 = .ok (.invokevirtual 28, 3) := by decide +kernel
theorem dX1_copyFrom_11 : decode cX1_copyFrom 11 = .ok (.aload_n 0, 1) := by decide +kernel
theorem dX1_copyFrom_12 : decode cX1_copyFrom 12 = .ok (.getfield 18, 3) := by decide +kernel
theorem dX1_copyFrom_15 : decode cX1_copyFrom 15 = .ok (.aload_n 1, 1) := by decide +kernel
theorem dX1_copyFrom_16 : decode cX1_copyFrom 16 = .ok (.getfield 18, 3) := by decide +kernel
theorem dX1_copyFrom_19 : decode cX1_copyFrom 19 = .ok (.invokevirtual 28, 3) := by decide +kernel
theorem dX1_copyFrom_22 : decode cX1_copyFrom 22 = .ok (.aload_n 0, 1) := by decide +kernel
theorem dX1_copyFrom_23 : decode cX1_copyFrom 23 = .ok (.aload_n 1, 1) := by decide +kernel
theorem dX1_copyFrom_24 : decode cX1_copyFrom 24 = .ok (.getfield 32, 3) := by decide +kernel
theorem dX1_copyFrom_27 : decode cX1_copyFrom 27 = .ok (.putfield 32, 3) := by decide +kernel
theorem dX1_copyFrom_30 : decode cX1_copyFrom 30 = .ok (.aload_n 0, 1) := by decide +kernel
theorem dX1_copyFrom_31 : decode cX1_copyFrom 31 = .ok (.aload_n 1, 1) := by decide +kernel
theorem dX1_copyFrom_32 : decode cX1_copyFrom 32 = .ok (.getfield 35, 3) := by decide +kernel
theorem dX1_copyFrom_35 : decode cX1_copyFrom 35 = .ok (.putfield 35, 3) := by decide +kernel
theorem dX1_copyFrom_38 : decode cX1_copyFrom 38 = .ok (.aload_n 0, 1) := by decide +kernel
theorem dX1_copyFrom_39 : decode cX1_copyFrom 39 = .ok (.aload_n 1, 1) := by decide +kernel
theorem dX1_copyFrom_40 : decode cX1_copyFrom 40 = .ok (.getfield 21, 3) := by decide +kernel
theorem dX1_copyFrom_43 : decode cX1_copyFrom 43 = .ok (.putfield 21, 3) := by decide +kernel
theorem dX1_copyFrom_46 : decode cX1_copyFrom 46 = .ok (.aload_n 0, 1) := by decide +kernel
theorem dX1_copyFrom_47 : decode cX1_copyFrom 47 = .ok (.aload_n 1, 1) := by decide +kernel
theorem dX1_copyFrom_48 : decode cX1_copyFrom 48 = .ok (.getfield 38, 3) := by decide +kernel
theorem dX1_copyFrom_51 : decode cX1_copyFrom 51 = .ok (.putfield 38, 3) := by decide +kernel
theorem dX1_copyFrom_54 : decode cX1_copyFrom 54 = .ok (.aload_n 0, 1) := by decide +kernel
theorem dX1_copyFrom_55 : decode cX1_copyFrom 55 = .ok (.aload_n 1, 1) := by decide +kernel
theorem dX1_copyFrom_56 : decode cX1_copyFrom 56 = .ok (.getfield 42, 3) := by decide +kernel
theorem dX1_copyFrom_59 : decode cX1_copyFrom 59 = .ok (.putfield 42, 3) := by decide +kernel
theorem dX1_copyFrom_62 : decode cX1_copyFrom 62 = .ok (.aload_n 0, 1) := by decide +kernel
theorem dX1_copyFrom_63 : decode cX1_copyFrom 63 = .ok (.aload_n 1, 1) := by decide +kernel
theorem dX1_copyFrom_64 : decode cX1_copyFrom 64 = .ok (.getfield 45, 3) := by decide +kernel
theorem dX1_copyFrom_67 : decode cX1_copyFrom 67 = .ok (.putfield 45, 3) := by decide +kernel
theorem dX1_copyFrom_70 : decode cX1_copyFrom 70 = .ok (.aload_n 0, 1) := by decide +kernel
theorem dX1_copyFrom_71 : decode cX1_copyFrom 71 = .ok (.aload_n 1, 1) := by decide +kernel
theorem dX1_copyFrom_72 : decode cX1_copyFrom 72 = .ok (.getfield 25, 3) := by decide +kernel
theorem dX1_copyFrom_75 : decode cX1_copyFrom 75 = .ok (.putfield 25, 3) := by decide +kernel
theorem dX1_copyFrom_78 : decode cX1_copyFrom 78 = .ok (.return_, 1) := by decide +kernel
theorem dX1_numberOfGate_0 : decode cX1_numberOfGate 0 = .ok (.iload_n 1, 1) := by decide +kernel
theorem dX1_numberOfGate_1 : decode cX1_numberOfGate 1 = .ok (.tableswitch 101 0 7 #[47, 52, 57, 62, 75, 83, 91, 96], 47) := by decide +kernel
theorem dX1_numberOfGate_48 : decode cX1_numberOfGate 48 = .ok (.aload_n 0, 1) := by decide +kernel
theorem dX1_numberOfGate_49 : decode cX1_numberOfGate 49 = .ok (.getfield 32, 3) := by decide +kernel
theorem dX1_numberOfGate_52 : decode cX1_numberOfGate 52 = .ok (.ireturn, 1) := by decide +kernel
theorem dX1_numberOfGate_53 : decode cX1_numberOfGate 53 = .ok (.aload_n 0, 1) := by decide +kernel
theorem dX1_numberOfGate_54 : decode cX1_numberOfGate 54 = .ok (.getfield 35, 3) := by decide +kernel
theorem dX1_numberOfGate_57 : decode cX1_numberOfGate 57 = .ok (.ireturn, 1) := by decide +kernel
theorem dX1_numberOfGate_58 : decode cX1_numberOfGate 58 = .ok (.aload_n 0, 1) := by decide +kernel
theorem dX1_numberOfGate_59 : decode cX1_numberOfGate 59 = .ok (.getfield 21, 3) := by decide +kernel
theorem dX1_numberOfGate_62 : decode cX1_numberOfGate 62 = .ok (.ireturn, 1) := by decide +kernel
theorem dX1_numberOfGate_63 : decode cX1_numberOfGate 63 = .ok (.aload_n 0, 1) := by decide +kernel
theorem dX1_numberOfGate_64 : decode cX1_numberOfGate 64 = .ok (.getfield 38, 3) := by decide +kernel
theorem dX1_numberOfGate_67 : decode cX1_numberOfGate 67 = .ok (.ifCond .eq 7, 3) := by decide +kernel
theorem dX1_numberOfGate_70 : decode cX1_numberOfGate 70 = .ok (.iconst 1, 1) := by decide +kernel
theorem dX1_numberOfGate_71 : decode cX1_numberOfGate 71 = .ok (.goto 4, 3) := by decide +kernel
theorem dX1_numberOfGate_74 : decode cX1_numberOfGate 74 = .ok (.iconst 0, 1) := by decide +kernel
theorem dX1_numberOfGate_75 : decode cX1_numberOfGate 75 = .ok (.ireturn, 1) := by decide +kernel
theorem dX1_numberOfGate_76 : decode cX1_numberOfGate 76 = .ok (.aload_n 0, 1) := by decide +kernel
theorem dX1_numberOfGate_77 : decode cX1_numberOfGate 77 = .ok (.getfield 12, 3) := by decide +kernel
theorem dX1_numberOfGate_80 : decode cX1_numberOfGate 80 = .ok (.getfield 48, 3) := by decide +kernel
theorem dX1_numberOfGate_83 : decode cX1_numberOfGate 83 = .ok (.ireturn, 1) := by decide +kernel
theorem dX1_numberOfGate_84 : decode cX1_numberOfGate 84 = .ok (.aload_n 0, 1) := by decide +kernel
theorem dX1_numberOfGate_85 : decode cX1_numberOfGate 85 = .ok (.getfield 18, 3) := by decide +kernel
theorem dX1_numberOfGate_88 : decode cX1_numberOfGate 88 = .ok (.getfield 48, 3) := by decide +kernel
theorem dX1_numberOfGate_91 : decode cX1_numberOfGate 91 = .ok (.ireturn, 1) := by decide +kernel
theorem dX1_numberOfGate_92 : decode cX1_numberOfGate 92 = .ok (.aload_n 0, 1) := by decide +kernel
theorem dX1_numberOfGate_93 : decode cX1_numberOfGate 93 = .ok (.getfield 42, 3) := by decide +kernel
theorem dX1_numberOfGate_96 : decode cX1_numberOfGate 96 = .ok (.ireturn, 1) := by decide +kernel
theorem dX1_numberOfGate_97 : decode cX1_numberOfGate 97 = .ok (.aload_n 0, 1) := by decide +kernel
theorem dX1_numberOfGate_98 : decode cX1_numberOfGate 98 = .ok (.getfield 45, 3) := by decide +kernel
theorem dX1_numberOfGate_101 : decode cX1_numberOfGate 101 = .ok (.ireturn, 1) := by decide +kernel
theorem dX1_numberOfGate_102 : decode cX1_numberOfGate 102 = .ok (.aload_n 0, 1) := by decide +kernel
theorem dX1_numberOfGate_103 : decode cX1_numberOfGate 103 = .ok (.getfield 25, 3) := by decide +kernel
theorem dX1_numberOfGate_106 : decode cX1_numberOfGate 106 = .ok (.ireturn, 1) := by decide +kernel
theorem dX1_lineOn_0 : decode cX1_lineOn 0 = .ok (.iload_n 1, 1) := by decide +kernel
theorem dX1_lineOn_1 : decode cX1_lineOn 1 = .ok (.iconst 1, 1) := by decide +kernel
theorem dX1_lineOn_2 : decode cX1_lineOn 2 = .ok (.if_icmp .ne 10, 3) := by decide +kernel
theorem dX1_lineOn_5 : decode cX1_lineOn 5 = .ok (.aload_n 0, 1) := by decide +kernel
theorem dX1_lineOn_6 : decode cX1_lineOn 6 = .ok (.getfield 18, 3) := by decide +kernel
theorem dX1_lineOn_9 : decode cX1_lineOn 9 = .ok (.goto 7, 3) := by decide +kernel
theorem dX1_lineOn_12 : decode cX1_lineOn 12 = .ok (.aload_n 0, 1) := by decide +kernel
theorem dX1_lineOn_13 : decode cX1_lineOn 13 = .ok (.getfield 12, 3) := by decide +kernel
theorem dX1_lineOn_16 : decode cX1_lineOn 16 = .ok (.areturn, 1) := by decide +kernel
theorem dX1_peopleInLines_0 : decode cX1_peopleInLines 0 = .ok (.aload_n 0, 1) := by decide +kernel
theorem dX1_peopleInLines_1 : decode cX1_peopleInLines 1 = .ok (.getfield 12, 3) := by decide +kernel
theorem dX1_peopleInLines_4 : decode cX1_peopleInLines 4 = .ok (.getfield 48, 3) := by decide +kernel
theorem dX1_peopleInLines_7 : decode cX1_peopleInLines 7 = .ok (.aload_n 0, 1) := by decide +kernel
theorem dX1_peopleInLines_8 : decode cX1_peopleInLines 8 = .ok (.getfield 18, 3) := by decide +kernel
theorem dX1_peopleInLines_11 : decode cX1_peopleInLines 11 = .ok (.getfield 48, 3) := by decide +kernel
theorem dX1_peopleInLines_14 : decode cX1_peopleInLines 14 = .ok (.iadd, 1) := by decide +kernel
theorem dX1_peopleInLines_15 : decode cX1_peopleInLines 15 = .ok (.ireturn, 1) := by decide +kernel
theorem dX1_serves_0 : decode cX1_serves 0 = .ok (.aload_n 0, 1) := by decide +kernel
theorem dX1_serves_1 : decode cX1_serves 1 = .ok (.getfield 32, 3) := by decide +kernel
theorem dX1_serves_4 : decode cX1_serves 4 = .ok (.iload_n 1, 1) := by decide +kernel
theorem dX1_serves_5 : decode cX1_serves 5 = .ok (.invokestatic 51, 3) := by decide +kernel
theorem dX1_serves_8 : decode cX1_serves 8 = .ok (.ireturn, 1) := by decide +kernel
theorem dX1_servesInMode_0 : decode cX1_servesInMode 0 = .ok (.iload_n 0, 1) := by decide +kernel
theorem dX1_servesInMode_1 : decode cX1_servesInMode 1 = .ok (.iconst 2, 1) := by decide +kernel
theorem dX1_servesInMode_2 : decode cX1_servesInMode 2 = .ok (.if_icmp .eq 17, 3) := by decide +kernel
theorem dX1_servesInMode_5 : decode cX1_servesInMode 5 = .ok (.iload_n 0, 1) := by decide +kernel
theorem dX1_servesInMode_6 : decode cX1_servesInMode 6 = .ok (.iload_n 1, 1) := by decide +kernel
theorem dX1_servesInMode_7 : decode cX1_servesInMode 7 = .ok (.iconst 1, 1) := by decide +kernel
theorem dX1_servesInMode_8 : decode cX1_servesInMode 8 = .ok (.if_icmp .ne 7, 3) := by decide +kernel
theorem dX1_servesInMode_11 : decode cX1_servesInMode 11 = .ok (.iconst 1, 1) := by decide +kernel
theorem dX1_servesInMode_12 : decode cX1_servesInMode 12 = .ok (.goto 4, 3) := by decide +kernel
theorem dX1_servesInMode_15 : decode cX1_servesInMode 15 = .ok (.iconst 0, 1) := by decide +kernel
theorem dX1_servesInMode_16 : decode cX1_servesInMode 16 = .ok (.if_icmp .ne 7, 3) := by decide +kernel
theorem dX1_servesInMode_19 : decode cX1_servesInMode 19 = .ok (.iconst 1, 1) := by decide +kernel
theorem dX1_servesInMode_20 : decode cX1_servesInMode 20 = .ok (.goto 4, 3) := by decide +kernel
theorem dX1_servesInMode_23 : decode cX1_servesInMode 23 = .ok (.iconst 0, 1) := by decide +kernel
theorem dX1_servesInMode_24 : decode cX1_servesInMode 24 = .ok (.ireturn, 1) := by decide +kernel
theorem dX1_peopleNotServedIn_0 : decode cX1_peopleNotServedIn 0 = .ok (.iconst 0, 1) := by decide +kernel
theorem dX1_peopleNotServedIn_1 : decode cX1_peopleNotServedIn 1 = .ok (.istore_n 2, 1) := by decide +kernel
theorem dX1_peopleNotServedIn_2 : decode cX1_peopleNotServedIn 2 = .ok (.iload_n 1, 1) := by decide +kernel
theorem dX1_peopleNotServedIn_3 : decode cX1_peopleNotServedIn 3 = .ok (.iconst 0, 1) := by decide +kernel
theorem dX1_peopleNotServedIn_4 : decode cX1_peopleNotServedIn 4 = .ok (.invokestatic 51, 3) := by decide +kernel
theorem dX1_peopleNotServedIn_7 : decode cX1_peopleNotServedIn 7 = .ok (.ifCond .ne 13, 3) := by decide +kernel
theorem dX1_peopleNotServedIn_10 : decode cX1_peopleNotServedIn 10 = .ok (.iload_n 2, 1) := by decide +kernel
theorem dX1_peopleNotServedIn_11 : decode cX1_peopleNotServedIn 11 = .ok (.aload_n 0, 1) := by decide +kernel
theorem dX1_peopleNotServedIn_12 : decode cX1_peopleNotServedIn 12 = .ok (.getfield 12, 3) := by decide +kernel
theorem dX1_peopleNotServedIn_15 : decode cX1_peopleNotServedIn 15 = .ok (.getfield 48, 3) := by decide +kernel
theorem dX1_peopleNotServedIn_18 : decode cX1_peopleNotServedIn 18 = .ok (.iadd, 1) := by decide +kernel
theorem dX1_peopleNotServedIn_19 : decode cX1_peopleNotServedIn 19 = .ok (.istore_n 2, 1) := by decide +kernel
theorem dX1_peopleNotServedIn_20 : decode cX1_peopleNotServedIn 20 = .ok (.iload_n 1, 1) := by decide +kernel
theorem dX1_peopleNotServedIn_21 : decode cX1_peopleNotServedIn 21 = .ok (.iconst 1, 1) := by decide +kernel
theorem dX1_peopleNotServedIn_22 : decode cX1_peopleNotServedIn 22 = .ok (.invokestatic 51, 3) := by decide +kernel
theorem dX1_peopleNotServedIn_25 : decode cX1_peopleNotServedIn 25 = .ok (.ifCond .ne 13, 3) := by decide +kernel
theorem dX1_peopleNotServedIn_28 : decode cX1_peopleNotServedIn 28 = .ok (.iload_n 2, 1) := by decide +kernel
theorem dX1_peopleNotServedIn_29 : decode cX1_peopleNotServedIn 29 = .ok (.aload_n 0, 1) := by decide +kernel
theorem dX1_peopleNotServedIn_30 : decode cX1_peopleNotServedIn 30 = .ok (.getfield 18, 3) := by decide +kernel
theorem dX1_peopleNotServedIn_33 : decode cX1_peopleNotServedIn 33 = .ok (.getfield 48, 3) := by decide +kernel
theorem dX1_peopleNotServedIn_36 : decode cX1_peopleNotServedIn 36 = .ok (.iadd, 1) := by decide +kernel
theorem dX1_peopleNotServedIn_37 : decode cX1_peopleNotServedIn 37 = .ok (.istore_n 2, 1) := by decide +kernel
theorem dX1_peopleNotServedIn_38 : decode cX1_peopleNotServedIn 38 = .ok (.iload_n 2, 1) := by decide +kernel
theorem dX1_peopleNotServedIn_39 : decode cX1_peopleNotServedIn 39 = .ok (.ireturn, 1) := by decide +kernel
theorem dX1_canTakeMode_0 : decode cX1_canTakeMode 0 = .ok (.aload_n 0, 1) := by decide +kernel
theorem dX1_canTakeMode_1 : decode cX1_canTakeMode 1 = .ok (.invokevirtual 55, 3) := by decide +kernel
theorem dX1_canTakeMode_4 : decode cX1_canTakeMode 4 = .ok (.ifCond .ne 15, 3) := by decide +kernel
theorem dX1_canTakeMode_7 : decode cX1_canTakeMode 7 = .ok (.aload_n 0, 1) := by decide +kernel
theorem dX1_canTakeMode_8 : decode cX1_canTakeMode 8 = .ok (.iload_n 1, 1) := by decide +kernel
theorem dX1_canTakeMode_9 : decode cX1_canTakeMode 9 = .ok (.invokevirtual 59, 3) := by decide +kernel
theorem dX1_canTakeMode_12 : decode cX1_canTakeMode 12 = .ok (.ifCond .ne 7, 3) := by decide +kernel
theorem dX1_canTakeMode_15 : decode cX1_canTakeMode 15 = .ok (.iconst 1, 1) := by decide +kernel
theorem dX1_canTakeMode_16 : decode cX1_canTakeMode 16 = .ok (.goto 4, 3) := by decide +kernel
theorem dX1_canTakeMode_19 : decode cX1_canTakeMode 19 = .ok (.iconst 0, 1) := by decide +kernel
theorem dX1_canTakeMode_20 : decode cX1_canTakeMode 20 = .ok (.ireturn, 1) := by decide +kernel
theorem dX1_isOpen_0 : decode cX1_isOpen 0 = .ok (.aload_n 0, 1) := by decide +kernel
theorem dX1_isOpen_1 : decode cX1_isOpen 1 = .ok (.getfield 35, 3) := by decide +kernel
theorem dX1_isOpen_4 : decode cX1_isOpen 4 = .ok (.ifCond .le 7, 3) := by decide +kernel
theorem dX1_isOpen_7 : decode cX1_isOpen 7 = .ok (.iconst 1, 1) := by decide +kernel
theorem dX1_isOpen_8 : decode cX1_isOpen 8 = .ok (.goto 4, 3) := by decide +kernel
theorem dX1_isOpen_11 : decode cX1_isOpen 11 = .ok (.iconst 0, 1) := by decide +kernel
theorem dX1_isOpen_12 : decode cX1_isOpen 12 = .ok (.ireturn, 1) := by decide +kernel
theorem dX1_isFirstDueOn_0 : decode cX1_isFirstDueOn 0 = .ok (.aload_n 0, 1) := by decide +kernel
theorem dX1_isFirstDueOn_1 : decode cX1_isFirstDueOn 1 = .ok (.getfield 38, 3) := by decide +kernel
theorem dX1_isFirstDueOn_4 : decode cX1_isFirstDueOn 4 = .ok (.ifCond .eq 15, 3) := by decide +kernel
theorem dX1_isFirstDueOn_7 : decode cX1_isFirstDueOn 7 = .ok (.aload_n 0, 1) := by decide +kernel
theorem dX1_isFirstDueOn_8 : decode cX1_isFirstDueOn 8 = .ok (.getfield 21, 3) := by decide +kernel
theorem dX1_isFirstDueOn_11 : decode cX1_isFirstDueOn 11 = .ok (.iload_n 1, 1) := by decide +kernel
theorem dX1_isFirstDueOn_12 : decode cX1_isFirstDueOn 12 = .ok (.if_icmp .ne 7, 3) := by decide +kernel
theorem dX1_isFirstDueOn_15 : decode cX1_isFirstDueOn 15 = .ok (.iconst 1, 1) := by decide +kernel
theorem dX1_isFirstDueOn_16 : decode cX1_isFirstDueOn 16 = .ok (.goto 4, 3) := by decide +kernel
theorem dX1_isFirstDueOn_19 : decode cX1_isFirstDueOn 19 = .ok (.iconst 0, 1) := by decide +kernel
theorem dX1_isFirstDueOn_20 : decode cX1_isFirstDueOn 20 = .ok (.ireturn, 1) := by decide +kernel
theorem dX1_sideServedNext_0 : decode cX1_sideServedNext 0 = .ok (.aload_n 0, 1) := by decide +kernel
theorem dX1_sideServedNext_1 : decode cX1_sideServedNext 1 = .ok (.getfield 32, 3) := by decide +kernel
theorem dX1_sideServedNext_4 : decode cX1_sideServedNext 4 = .ok (.ifCond .ne 5, 3) := by decide +kernel
theorem dX1_sideServedNext_7 : decode cX1_sideServedNext 7 = .ok (.iconst 0, 1) := by decide +kernel
theorem dX1_sideServedNext_8 : decode cX1_sideServedNext 8 = .ok (.ireturn, 1) := by decide +kernel
theorem dX1_sideServedNext_9 : decode cX1_sideServedNext 9 = .ok (.aload_n 0, 1) := by decide +kernel
theorem dX1_sideServedNext_10 : decode cX1_sideServedNext 10 = .ok (.getfield 32, 3) := by decide +kernel
theorem dX1_sideServedNext_13 : decode cX1_sideServedNext 13 = .ok (.iconst 1, 1) := by decide +kernel
theorem dX1_sideServedNext_14 : decode cX1_sideServedNext 14 = .ok (.if_icmp .ne 5, 3) := by decide +kernel
theorem dX1_sideServedNext_17 : decode cX1_sideServedNext 17 = .ok (.iconst 1, 1) := by decide +kernel
theorem dX1_sideServedNext_18 : decode cX1_sideServedNext 18 = .ok (.ireturn, 1) := by decide +kernel
theorem dX1_sideServedNext_19 : decode cX1_sideServedNext 19 = .ok (.aload_n 0, 1) := by decide +kernel
theorem dX1_sideServedNext_20 : decode cX1_sideServedNext 20 = .ok (.getfield 12, 3) := by decide +kernel
theorem dX1_sideServedNext_23 : decode cX1_sideServedNext 23 = .ok (.getfield 48, 3) := by decide +kernel
theorem dX1_sideServedNext_26 : decode cX1_sideServedNext 26 = .ok (.aload_n 0, 1) := by decide +kernel
theorem dX1_sideServedNext_27 : decode cX1_sideServedNext 27 = .ok (.getfield 18, 3) := by decide +kernel
theorem dX1_sideServedNext_30 : decode cX1_sideServedNext 30 = .ok (.getfield 48, 3) := by decide +kernel
theorem dX1_sideServedNext_33 : decode cX1_sideServedNext 33 = .ok (.if_icmp .eq 26, 3) := by decide +kernel
theorem dX1_sideServedNext_36 : decode cX1_sideServedNext 36 = .ok (.aload_n 0, 1) := by decide +kernel
theorem dX1_sideServedNext_37 : decode cX1_sideServedNext 37 = .ok (.getfield 12, 3) := by decide +kernel
theorem dX1_sideServedNext_40 : decode cX1_sideServedNext 40 = .ok (.getfield 48, 3) := by decide +kernel
theorem dX1_sideServedNext_43 : decode cX1_sideServedNext 43 = .ok (.aload_n 0, 1) := by decide +kernel
theorem dX1_sideServedNext_44 : decode cX1_sideServedNext 44 = .ok (.getfield 18, 3) := by decide +kernel
theorem dX1_sideServedNext_47 : decode cX1_sideServedNext 47 = .ok (.getfield 48, 3) := by decide +kernel
theorem dX1_sideServedNext_50 : decode cX1_sideServedNext 50 = .ok (.if_icmp .le 7, 3) := by decide +kernel
theorem dX1_sideServedNext_53 : decode cX1_sideServedNext 53 = .ok (.iconst 0, 1) := by decide +kernel
theorem dX1_sideServedNext_54 : decode cX1_sideServedNext 54 = .ok (.goto 4, 3) := by decide +kernel
theorem dX1_sideServedNext_57 : decode cX1_sideServedNext 57 = .ok (.iconst 1, 1) := by decide +kernel
theorem dX1_sideServedNext_58 : decode cX1_sideServedNext 58 = .ok (.ireturn, 1) := by decide +kernel
theorem dX1_sideServedNext_59 : decode cX1_sideServedNext 59 = .ok (.aload_n 0, 1) := by decide +kernel
theorem dX1_sideServedNext_60 : decode cX1_sideServedNext 60 = .ok (.getfield 25, 3) := by decide +kernel
theorem dX1_sideServedNext_63 : decode cX1_sideServedNext 63 = .ok (.ifCond .ne 7, 3) := by decide +kernel
theorem dX1_sideServedNext_66 : decode cX1_sideServedNext 66 = .ok (.iconst 1, 1) := by decide +kernel
theorem dX1_sideServedNext_67 : decode cX1_sideServedNext 67 = .ok (.goto 4, 3) := by decide +kernel
theorem dX1_sideServedNext_70 : decode cX1_sideServedNext 70 = .ok (.iconst 0, 1) := by decide +kernel
theorem dX1_sideServedNext_71 : decode cX1_sideServedNext 71 = .ok (.ireturn, 1) := by decide +kernel
theorem dX1_openFor_0 : decode cX1_openFor 0 = .ok (.aload_n 0, 1) := by decide +kernel
theorem dX1_openFor_1 : decode cX1_openFor 1 = .ok (.iload_n 2, 1) := by decide +kernel
theorem dX1_openFor_2 : decode cX1_openFor 2 = .ok (.putfield 35, 3) := by decide +kernel
theorem dX1_openFor_5 : decode cX1_openFor 5 = .ok (.aload_n 0, 1) := by decide +kernel
theorem dX1_openFor_6 : decode cX1_openFor 6 = .ok (.iload_n 1, 1) := by decide +kernel
theorem dX1_openFor_7 : decode cX1_openFor 7 = .ok (.putfield 21, 3) := by decide +kernel
theorem dX1_openFor_10 : decode cX1_openFor 10 = .ok (.aload_n 0, 1) := by decide +kernel
theorem dX1_openFor_11 : decode cX1_openFor 11 = .ok (.iconst 1, 1) := by decide +kernel
theorem dX1_openFor_12 : decode cX1_openFor 12 = .ok (.putfield 38, 3) := by decide +kernel
theorem dX1_openFor_15 : decode cX1_openFor 15 = .ok (.aload_n 0, 1) := by decide +kernel
theorem dX1_openFor_16 : decode cX1_openFor 16 = .ok (.dup, 1) := by decide +kernel
theorem dX1_openFor_17 : decode cX1_openFor 17 = .ok (.getfield 45, 3) := by decide +kernel
theorem dX1_openFor_20 : decode cX1_openFor 20 = .ok (.iconst 1, 1) := by decide +kernel
theorem dX1_openFor_21 : decode cX1_openFor 21 = .ok (.iadd, 1) := by decide +kernel
theorem dX1_openFor_22 : decode cX1_openFor 22 = .ok (.putfield 45, 3) := by decide +kernel
theorem dX1_openFor_25 : decode cX1_openFor 25 = .ok (.aload_n 0, 1) := by decide +kernel
theorem dX1_openFor_26 : decode cX1_openFor 26 = .ok (.iload_n 1, 1) := by decide +kernel
theorem dX1_openFor_27 : decode cX1_openFor 27 = .ok (.putfield 25, 3) := by decide +kernel
theorem dX1_openFor_30 : decode cX1_openFor 30 = .ok (.return_, 1) := by decide +kernel
theorem dX1_closePaddles_0 : decode cX1_closePaddles 0 = .ok (.aload_n 0, 1) := by decide +kernel
theorem dX1_closePaddles_1 : decode cX1_closePaddles 1 = .ok (.iconst 0, 1) := by decide +kernel
theorem dX1_closePaddles_2 : decode cX1_closePaddles 2 = .ok (.putfield 35, 3) := by decide +kernel
theorem dX1_closePaddles_5 : decode cX1_closePaddles 5 = .ok (.aload_n 0, 1) := by decide +kernel
theorem dX1_closePaddles_6 : decode cX1_closePaddles 6 = .ok (.iconst (-1), 1) := by decide +kernel
theorem dX1_closePaddles_7 : decode cX1_closePaddles 7 = .ok (.putfield 21, 3) := by decide +kernel
theorem dX1_closePaddles_10 : decode cX1_closePaddles 10 = .ok (.aload_n 0, 1) := by decide +kernel
theorem dX1_closePaddles_11 : decode cX1_closePaddles 11 = .ok (.iconst 0, 1) := by decide +kernel
theorem dX1_closePaddles_12 : decode cX1_closePaddles 12 = .ok (.putfield 38, 3) := by decide +kernel
theorem dX1_closePaddles_15 : decode cX1_closePaddles 15 = .ok (.return_, 1) := by decide +kernel
theorem dX2_init_0 : decode cX2_init 0 = .ok (.aload_n 0, 1) := by decide +kernel
theorem dX2_init_1 : decode cX2_init 1 = .ok (.invokespecial 3, 3) := by decide +kernel
theorem dX2_init_4 : decode cX2_init 4 = .ok (.aload_n 0, 1) := by decide +kernel
theorem dX2_init_5 : decode cX2_init 5 = .ok (.bipush 8, 2) := by decide +kernel
theorem dX2_init_7 : decode cX2_init 7 = .ok (.anewarray 9, 3) := by decide +kernel
theorem dX2_init_10 : decode cX2_init 10 = .ok (.putfield 11, 3) := by decide +kernel
theorem dX2_init_13 : decode cX2_init 13 = .ok (.iconst 0, 1) := by decide +kernel
theorem dX2_init_14 : decode cX2_init 14 = .ok (.istore_n 1, 1) := by decide +kernel
theorem dX2_init_15 : decode cX2_init 15 = .ok (.iload_n 1, 1) := by decide +kernel
theorem dX2_init_16 : decode cX2_init 16 = .ok (.aload_n 0, 1) := by decide +kernel
theorem dX2_init_17 : decode cX2_init 17 = .ok (.getfield 11, 3) := by decide +kernel
theorem dX2_init_20 : decode cX2_init 20 = .ok (.arraylength, 1) := by decide +kernel
theorem dX2_init_21 : decode cX2_init 21 = .ok (.if_icmp .ge 22, 3) := by decide +kernel
theorem dX2_init_24 : decode cX2_init 24 = .ok (.aload_n 0, 1) := by decide +kernel
theorem dX2_init_25 : decode cX2_init 25 = .ok (.getfield 11, 3) := by decide +kernel
theorem dX2_init_28 : decode cX2_init 28 = .ok (.iload_n 1, 1) := by decide +kernel
theorem dX2_init_29 : decode cX2_init 29 = .ok (.new 9, 3) := by decide +kernel
theorem dX2_init_32 : decode cX2_init 32 = .ok (.dup, 1) := by decide +kernel
theorem dX2_init_33 : decode cX2_init 33 = .ok (.invokespecial 17, 3) := by decide +kernel
theorem dX2_init_36 : decode cX2_init 36 = .ok (.aastore, 1) := by decide +kernel
theorem dX2_init_37 : decode cX2_init 37 = .ok (.iinc 1 1, 3) := by decide +kernel
theorem dX2_init_40 : decode cX2_init 40 = .ok (.goto (-25), 3) := by decide +kernel
theorem dX2_init_43 : decode cX2_init 43 = .ok (.return_, 1) := by decide +kernel
theorem dX2_remember_0 : decode cX2_remember 0 = .ok (.aload_n 0, 1) := by decide +kernel
theorem dX2_remember_1 : decode cX2_remember 1 = .ok (.aload_n 0, 1) := by decide +kernel
theorem dX2_remember_2 : decode cX2_remember 2 = .ok (.getfield 18, 3) := by decide +kernel
theorem dX2_remember_5 : decode cX2_remember 5 = .ok (.iconst 1, 1) := by decide +kernel
theorem dX2_remember_6 : decode cX2_remember 6 = .ok (.iadd, 1) := by decide +kernel
theorem dX2_remember_7 : decode cX2_remember 7 = .ok (.aload_n 0, 1) := by decide +kernel
theorem dX2_remember_8 : decode cX2_remember 8 = .ok (.getfield 11, 3) := by decide +kernel
theorem dX2_remember_11 : decode cX2_remember 11 = .ok (.arraylength, 1) := by decide +kernel
theorem dX2_remember_12 : decode cX2_remember 12 = .ok (.if_icmp .ge 12, 3) := by decide +kernel
theorem dX2_remember_15 : decode cX2_remember 15 = .ok (.aload_n 0, 1) := by decide +kernel
theorem dX2_remember_16 : decode cX2_remember 16 = .ok (.getfield 18, 3) := by decide +kernel
theorem dX2_remember_19 : decode cX2_remember 19 = .ok (.iconst 1, 1) := by decide +kernel
theorem dX2_remember_20 : decode cX2_remember 20 = .ok (.iadd, 1) := by decide +kernel
theorem dX2_remember_21 : decode cX2_remember 21 = .ok (.goto 4, 3) := by decide +kernel
theorem dX2_remember_24 : decode cX2_remember 24 = .ok (.iconst 0, 1) := by decide +kernel
theorem dX2_remember_25 : decode cX2_remember 25 = .ok (.putfield 18, 3) := by decide +kernel
theorem dX2_remember_28 : decode cX2_remember 28 = .ok (.aload_n 0, 1) := by decide +kernel
theorem dX2_remember_29 : decode cX2_remember 29 = .ok (.aload_n 0, 1) := by decide +kernel
theorem dX2_remember_30 : decode cX2_remember 30 = .ok (.getfield 22, 3) := by decide +kernel
theorem dX2_remember_33 : decode cX2_remember 33 = .ok (.iconst 1, 1) := by decide +kernel
theorem dX2_remember_34 : decode cX2_remember 34 = .ok (.iadd, 1) := by decide +kernel
theorem dX2_remember_35 : decode cX2_remember 35 = .ok (.aload_n 0, 1) := by decide +kernel
theorem dX2_remember_36 : decode cX2_remember 36 = .ok (.getfield 11, 3) := by decide +kernel
theorem dX2_remember_39 : decode cX2_remember 39 = .ok (.arraylength, 1) := by decide +kernel
theorem dX2_remember_40 : decode cX2_remember 40 = .ok (.invokestatic 25, 3) := by decide +kernel
theorem dX2_remember_43 : decode cX2_remember 43 = .ok (.putfield 22, 3) := by decide +kernel
theorem dX2_remember_46 : decode cX2_remember 46 = .ok (.aload_n 0, 1) := by decide +kernel
theorem dX2_remember_47 : decode cX2_remember 47 = .ok (.getfield 18, 3) := by decide +kernel
theorem dX2_remember_50 : decode cX2_remember 50 = .ok (.ifCond .lt 28, 3) := by decide +kernel
theorem dX2_remember_53 : decode cX2_remember 53 = .ok (.aload_n 0, 1) := by decide +kernel
theorem dX2_remember_54 : decode cX2_remember 54 = .ok (.getfield 18, 3) := by decide +kernel
theorem dX2_remember_57 : decode cX2_remember 57 = .ok (.aload_n 0, 1) := by decide +kernel
theorem dX2_remember_58 : decode cX2_remember 58 = .ok (.getfield 11, 3) := by decide +kernel
theorem dX2_remember_61 : decode cX2_remember 61 = .ok (.arraylength, 1) := by decide +kernel
theorem dX2_remember_62 : decode cX2_remember 62 = .ok (.if_icmp .ge 16, 3) := by decide +kernel
theorem dX2_remember_65 : decode cX2_remember 65 = .ok (.aload_n 0, 1) := by decide +kernel
theorem dX2_remember_66 : decode cX2_remember 66 = .ok (.getfield 11, 3) := by decide +kernel
theorem dX2_remember_69 : decode cX2_remember 69 = .ok (.aload_n 0, 1) := by decide +kernel
theorem dX2_remember_70 : decode cX2_remember 70 = .ok (.getfield 18, 3) := by decide +kernel
theorem dX2_remember_73 : decode cX2_remember 73 = .ok (.aaload, 1) := by decide +kernel
theorem dX2_remember_74 : decode cX2_remember 74 = .ok (.aload_n 1, 1) := by decide +kernel
theorem dX2_remember_75 : decode cX2_remember 75 = .ok (.invokevirtual 31, 3) := by decide +kernel
theorem dX2_remember_78 : decode cX2_remember 78 = .ok (.return_, 1) := by decide +kernel
theorem dX2_takeBack_0 : decode cX2_takeBack 0 = .ok (.aload_n 0, 1) := by decide +kernel
theorem dX2_takeBack_1 : decode cX2_takeBack 1 = .ok (.getfield 22, 3) := by decide +kernel
theorem dX2_takeBack_4 : decode cX2_takeBack 4 = .ok (.ifCond .le 72, 3) := by decide +kernel
theorem dX2_takeBack_7 : decode cX2_takeBack 7 = .ok (.aload_n 0, 1) := by decide +kernel
theorem dX2_takeBack_8 : decode cX2_takeBack 8 = .ok (.getfield 18, 3) := by decide +kernel
theorem dX2_takeBack_11 : decode cX2_takeBack 11 = .ok (.ifCond .lt 65, 3) := by decide +kernel
theorem dX2_takeBack_14 : decode cX2_takeBack 14 = .ok (.aload_n 0, 1) := by decide +kernel
theorem dX2_takeBack_15 : decode cX2_takeBack 15 = .ok (.getfield 18, 3) := by decide +kernel
theorem dX2_takeBack_18 : decode cX2_takeBack 18 = .ok (.aload_n 0, 1) := by decide +kernel
theorem dX2_takeBack_19 : decode cX2_takeBack 19 = .ok (.getfield 11, 3) := by decide +kernel
theorem dX2_takeBack_22 : decode cX2_takeBack 22 = .ok (.arraylength, 1) := by decide +kernel
theorem dX2_takeBack_23 : decode cX2_takeBack 23 = .ok (.if_icmp .ge 53, 3) := by decide +kernel
theorem dX2_takeBack_26 : decode cX2_takeBack 26 = .ok (.aload_n 1, 1) := by decide +kernel
theorem dX2_takeBack_27 : decode cX2_takeBack 27 = .ok (.aload_n 0, 1) := by decide +kernel
theorem dX2_takeBack_28 : decode cX2_takeBack 28 = .ok (.getfield 11, 3) := by decide +kernel
theorem dX2_takeBack_31 : decode cX2_takeBack 31 = .ok (.aload_n 0, 1) := by decide +kernel
theorem dX2_takeBack_32 : decode cX2_takeBack 32 = .ok (.getfield 18, 3) := by decide +kernel
theorem dX2_takeBack_35 : decode cX2_takeBack 35 = .ok (.aaload, 1) := by decide +kernel
theorem dX2_takeBack_36 : decode cX2_takeBack 36 = .ok (.invokevirtual 31, 3) := by decide +kernel
theorem dX2_takeBack_39 : decode cX2_takeBack 39 = .ok (.aload_n 0, 1) := by decide +kernel
theorem dX2_takeBack_40 : decode cX2_takeBack 40 = .ok (.aload_n 0, 1) := by decide +kernel
theorem dX2_takeBack_41 : decode cX2_takeBack 41 = .ok (.getfield 18, 3) := by decide +kernel
theorem dX2_takeBack_44 : decode cX2_takeBack 44 = .ok (.ifCond .le 12, 3) := by decide +kernel
theorem dX2_takeBack_47 : decode cX2_takeBack 47 = .ok (.aload_n 0, 1) := by decide +kernel
theorem dX2_takeBack_48 : decode cX2_takeBack 48 = .ok (.getfield 18, 3) := by decide +kernel
theorem dX2_takeBack_51 : decode cX2_takeBack 51 = .ok (.iconst 1, 1) := by decide +kernel
theorem dX2_takeBack_52 : decode cX2_takeBack 52 = .ok (.isub, 1) := by decide +kernel
theorem dX2_takeBack_53 : decode cX2_takeBack 53 = .ok (.goto 10, 3) := by decide +kernel
theorem dX2_takeBack_56 : decode cX2_takeBack 56 = .ok (.aload_n 0, 1) := by decide +kernel
theorem dX2_takeBack_57 : decode cX2_takeBack 57 = .ok (.getfield 11, 3) := by decide +kernel
theorem dX2_takeBack_60 : decode cX2_takeBack 60 = .ok (.arraylength, 1) := by decide +kernel
theorem dX2_takeBack_61 : decode cX2_takeBack 61 = .ok (.iconst 1, 1) := by decide +kernel
theorem dX2_takeBack_62 : decode cX2_takeBack 62 = .ok (.isub, 1) := by decide +kernel
theorem dX2_takeBack_63 : decode cX2_takeBack 63 = .ok (.putfield 18, 3) := by decide +kernel
theorem dX2_takeBack_66 : decode cX2_takeBack 66 = .ok (.aload_n 0, 1) := by decide +kernel
theorem dX2_takeBack_67 : decode cX2_takeBack 67 = .ok (.dup, 1) := by decide +kernel
theorem dX2_takeBack_68 : decode cX2_takeBack 68 = .ok (.getfield 22, 3) := by decide +kernel
theorem dX2_takeBack_71 : decode cX2_takeBack 71 = .ok (.iconst 1, 1) := by decide +kernel
theorem dX2_takeBack_72 : decode cX2_takeBack 72 = .ok (.isub, 1) := by decide +kernel
theorem dX2_takeBack_73 : decode cX2_takeBack 73 = .ok (.putfield 22, 3) := by decide +kernel
theorem dX2_takeBack_76 : decode cX2_takeBack 76 = .ok (.return_, 1) := by decide +kernel
theorem dX3_init_0 : decode cX3_init 0 = .ok (.aload_n 0, 1) := by decide +kernel
theorem dX3_init_1 : decode cX3_init 1 = .ok (.invokespecial 3, 3) := by decide +kernel
theorem dX3_init_4 : decode cX3_init 4 = .ok (.aload_n 0, 1) := by decide +kernel
theorem dX3_init_5 : decode cX3_init 5 = .ok (.sipush 500, 3) := by decide +kernel
theorem dX3_init_8 : decode cX3_init 8 = .ok (.newarray .byte, 2) := by decide +kernel
theorem dX3_init_10 : decode cX3_init 10 = .ok (.putfield 9, 3) := by decide +kernel
theorem dX3_init_13 : decode cX3_init 13 = .ok (.return_, 1) := by decide +kernel
theorem dX3_addBytesOf_0 : decode cX3_addBytesOf 0 = .ok (.bipush 24, 2) := by decide +kernel
theorem dX3_addBytesOf_2 : decode cX3_addBytesOf 2 = .ok (.istore_n 2, 1) := by decide +kernel
theorem dX3_addBytesOf_3 : decode cX3_addBytesOf 3 = .ok (.iload_n 2, 1) := by decide +kernel
theorem dX3_addBytesOf_4 : decode cX3_addBytesOf 4 = .ok (.ifCond .lt 51, 3) := by decide +kernel
theorem dX3_addBytesOf_7 : decode cX3_addBytesOf 7 = .ok (.aload_n 0, 1) := by decide +kernel
theorem dX3_addBytesOf_8 : decode cX3_addBytesOf 8 = .ok (.getfield 15, 3) := by decide +kernel
theorem dX3_addBytesOf_11 : decode cX3_addBytesOf 11 = .ok (.ifCond .lt 38, 3) := by decide +kernel
theorem dX3_addBytesOf_14 : decode cX3_addBytesOf 14 = .ok (.aload_n 0, 1) := by decide +kernel
theorem dX3_addBytesOf_15 : decode cX3_addBytesOf 15 = .ok (.getfield 15, 3) := by decide +kernel
theorem dX3_addBytesOf_18 : decode cX3_addBytesOf 18 = .ok (.aload_n 0, 1) := by decide +kernel
theorem dX3_addBytesOf_19 : decode cX3_addBytesOf 19 = .ok (.getfield 9, 3) := by decide +kernel
theorem dX3_addBytesOf_22 : decode cX3_addBytesOf 22 = .ok (.arraylength, 1) := by decide +kernel
theorem dX3_addBytesOf_23 : decode cX3_addBytesOf 23 = .ok (.if_icmp .ge 26, 3) := by decide +kernel
theorem dX3_addBytesOf_26 : decode cX3_addBytesOf 26 = .ok (.aload_n 0, 1) := by decide +kernel
theorem dX3_addBytesOf_27 : decode cX3_addBytesOf 27 = .ok (.getfield 9, 3) := by decide +kernel
theorem dX3_addBytesOf_30 : decode cX3_addBytesOf 30 = .ok (.aload_n 0, 1) := by decide +kernel
theorem dX3_addBytesOf_31 : decode cX3_addBytesOf 31 = .ok (.getfield 15, 3) := by decide +kernel
theorem dX3_addBytesOf_34 : decode cX3_addBytesOf 34 = .ok (.iload_n 1, 1) := by decide +kernel
theorem dX3_addBytesOf_35 : decode cX3_addBytesOf 35 = .ok (.iload_n 2, 1) := by decide +kernel
theorem dX3_addBytesOf_36 : decode cX3_addBytesOf 36 = .ok (.ishr, 1) := by decide +kernel
theorem dX3_addBytesOf_37 : decode cX3_addBytesOf 37 = .ok (.i2b, 1) := by decide +kernel
theorem dX3_addBytesOf_38 : decode cX3_addBytesOf 38 = .ok (.bastore, 1) := by decide +kernel
theorem dX3_addBytesOf_39 : decode cX3_addBytesOf 39 = .ok (.aload_n 0, 1) := by decide +kernel
theorem dX3_addBytesOf_40 : decode cX3_addBytesOf 40 = .ok (.dup, 1) := by decide +kernel
theorem dX3_addBytesOf_41 : decode cX3_addBytesOf 41 = .ok (.getfield 15, 3) := by decide +kernel
theorem dX3_addBytesOf_44 : decode cX3_addBytesOf 44 = .ok (.iconst 1, 1) := by decide +kernel
theorem dX3_addBytesOf_45 : decode cX3_addBytesOf 45 = .ok (.iadd, 1) := by decide +kernel
theorem dX3_addBytesOf_46 : decode cX3_addBytesOf 46 = .ok (.putfield 15, 3) := by decide +kernel
theorem dX3_addBytesOf_49 : decode cX3_addBytesOf 49 = .ok (.iinc 2 (-8), 3) := by decide +kernel
theorem dX3_addBytesOf_52 : decode cX3_addBytesOf 52 = .ok (.goto (-49), 3) := by decide +kernel
theorem dX3_addBytesOf_55 : decode cX3_addBytesOf 55 = .ok (.return_, 1) := by decide +kernel
theorem dX3_beginText_0 : decode cX3_beginText 0 = .ok (.aload_n 0, 1) := by decide +kernel
theorem dX3_beginText_1 : decode cX3_beginText 1 = .ok (.iload_n 1, 1) := by decide +kernel
theorem dX3_beginText_2 : decode cX3_beginText 2 = .ok (.putfield 19, 3) := by decide +kernel
theorem dX3_beginText_5 : decode cX3_beginText 5 = .ok (.aload_n 0, 1) := by decide +kernel
theorem dX3_beginText_6 : decode cX3_beginText 6 = .ok (.iconst 0, 1) := by decide +kernel
theorem dX3_beginText_7 : decode cX3_beginText 7 = .ok (.putfield 22, 3) := by decide +kernel
theorem dX3_beginText_10 : decode cX3_beginText 10 = .ok (.aload_n 0, 1) := by decide +kernel
theorem dX3_beginText_11 : decode cX3_beginText 11 = .ok (.invokevirtual 25, 3) := by decide +kernel
theorem dX3_beginText_14 : decode cX3_beginText 14 = .ok (.return_, 1) := by decide +kernel
theorem dX3_advance_0 : decode cX3_advance 0 = .ok (.aload_n 0, 1) := by decide +kernel
theorem dX3_advance_1 : decode cX3_advance 1 = .ok (.getfield 22, 3) := by decide +kernel
theorem dX3_advance_4 : decode cX3_advance 4 = .ok (.aload_n 0, 1) := by decide +kernel
theorem dX3_advance_5 : decode cX3_advance 5 = .ok (.getfield 19, 3) := by decide +kernel
theorem dX3_advance_8 : decode cX3_advance 8 = .ok (.if_icmp .ge 29, 3) := by decide +kernel
theorem dX3_advance_11 : decode cX3_advance 11 = .ok (.aload_n 0, 1) := by decide +kernel
theorem dX3_advance_12 : decode cX3_advance 12 = .ok (.aload_n 0, 1) := by decide +kernel
theorem dX3_advance_13 : decode cX3_advance 13 = .ok (.getfield 22, 3) := by decide +kernel
theorem dX3_advance_16 : decode cX3_advance 16 = .ok (.invokevirtual 28, 3) := by decide +kernel
theorem dX3_advance_19 : decode cX3_advance 19 = .ok (.bipush 32, 2) := by decide +kernel
theorem dX3_advance_21 : decode cX3_advance 21 = .ok (.if_icmp .ne 16, 3) := by decide +kernel
theorem dX3_advance_24 : decode cX3_advance 24 = .ok (.aload_n 0, 1) := by decide +kernel
theorem dX3_advance_25 : decode cX3_advance 25 = .ok (.dup, 1) := by decide +kernel
theorem dX3_advance_26 : decode cX3_advance 26 = .ok (.getfield 22, 3) := by decide +kernel
theorem dX3_advance_29 : decode cX3_advance 29 = .ok (.iconst 1, 1) := by decide +kernel
theorem dX3_advance_30 : decode cX3_advance 30 = .ok (.iadd, 1) := by decide +kernel
theorem dX3_advance_31 : decode cX3_advance 31 = .ok (.putfield 22, 3) := by decide +kernel
theorem dX3_advance_34 : decode cX3_advance 34 = .ok (.goto (-34), 3) := by decide +kernel
theorem dX3_advance_37 : decode cX3_advance 37 = .ok (.aload_n 0, 1) := by decide +kernel
theorem dX3_advance_38 : decode cX3_advance 38 = .ok (.aload_n 0, 1) := by decide +kernel
theorem dX3_advance_39 : decode cX3_advance 39 = .ok (.getfield 22, 3) := by decide +kernel
theorem dX3_advance_42 : decode cX3_advance 42 = .ok (.putfield 32, 3) := by decide +kernel
theorem dX3_advance_45 : decode cX3_advance 45 = .ok (.aload_n 0, 1) := by decide +kernel
theorem dX3_advance_46 : decode cX3_advance 46 = .ok (.aload_n 0, 1) := by decide +kernel
theorem dX3_advance_47 : decode cX3_advance 47 = .ok (.getfield 22, 3) := by decide +kernel
theorem dX3_advance_50 : decode cX3_advance 50 = .ok (.invokevirtual 28, 3) := by decide +kernel
theorem dX3_advance_53 : decode cX3_advance 53 = .ok (.istore_n 1, 1) := by decide +kernel
theorem dX3_advance_54 : decode cX3_advance 54 = .ok (.aload_n 0, 1) := by decide +kernel
theorem dX3_advance_55 : decode cX3_advance 55 = .ok (.getfield 22, 3) := by decide +kernel
theorem dX3_advance_58 : decode cX3_advance 58 = .ok (.aload_n 0, 1) := by decide +kernel
theorem dX3_advance_59 : decode cX3_advance 59 = .ok (.getfield 19, 3) := by decide +kernel
theorem dX3_advance_62 : decode cX3_advance 62 = .ok (.if_icmp .lt 11, 3) := by decide +kernel
theorem dX3_advance_65 : decode cX3_advance 65 = .ok (.aload_n 0, 1) := by decide +kernel
theorem dX3_advance_66 : decode cX3_advance 66 = .ok (.iconst 0, 1) := by decide +kernel
theorem dX3_advance_67 : decode cX3_advance 67 = .ok (.putfield 35, 3) := by decide +kernel
theorem dX3_advance_70 : decode cX3_advance 70 = .ok (.goto 66, 3) := by decide +kernel
theorem dX3_advance_73 : decode cX3_advance 73 = .ok (.iload_n 1, 1) := by decide +kernel
theorem dX3_advance_74 : decode cX3_advance 74 = .ok (.invokestatic 38, 3) := by decide +kernel
theorem dX3_advance_77 : decode cX3_advance 77 = .ok (.ifCond .eq 15, 3) := by decide +kernel
theorem dX3_advance_80 : decode cX3_advance 80 = .ok (.aload_n 0, 1) := by decide +kernel
theorem dX3_advance_81 : decode cX3_advance 81 = .ok (.iconst 1, 1) := by decide +kernel
theorem dX3_advance_82 : decode cX3_advance 82 = .ok (.putfield 35, 3) := by decide +kernel
theorem dX3_advance_85 : decode cX3_advance 85 = .ok (.aload_n 0, 1) := by decide +kernel
theorem dX3_advance_86 : decode cX3_advance 86 = .ok (.invokevirtual 42, 3) := by decide +kernel
theorem dX3_advance_89 : decode cX3_advance 89 = .ok (.goto 47, 3) := by decide +kernel
theorem dX3_advance_92 : decode cX3_advance 92 = .ok (.iload_n 1, 1) := by decide +kernel
theorem dX3_advance_93 : decode cX3_advance 93 = .ok (.invokestatic 45, 3) := by decide +kernel
theorem dX3_advance_96 : decode cX3_advance 96 = .ok (.ifCond .eq 15, 3) := by decide +kernel
theorem dX3_advance_99 : decode cX3_advance 99 = .ok (.aload_n 0, 1) := by decide +kernel
theorem dX3_advance_100 : decode cX3_advance 100 = .ok (.iconst 2, 1) := by decide +kernel
theorem dX3_advance_101 : decode cX3_advance 101 = .ok (.putfield 35, 3) := by decide +kernel
theorem dX3_advance_104 : decode cX3_advance 104 = .ok (.aload_n 0, 1) := by decide +kernel
theorem dX3_advance_105 : decode cX3_advance 105 = .ok (.invokevirtual 48, 3) := by decide +kernel
theorem dX3_advance_108 : decode cX3_advance 108 = .ok (.goto 28, 3) := by decide +kernel
theorem dX3_advance_111 : decode cX3_advance 111 = .ok (.aload_n 0, 1) := by decide +kernel
theorem dX3_advance_112 : decode cX3_advance 112 = .ok (.iload_n 1, 1) := by decide +kernel
theorem dX3_advance_113 : decode cX3_advance 113 = .ok (.bipush 59, 2) := by decide +kernel
theorem dX3_advance_115 : decode cX3_advance 115 = .ok (.if_icmp .ne 7, 3) := by decide +kernel
theorem dX3_advance_118 : decode cX3_advance 118 = .ok (.iconst 3, 1) := by decide +kernel
theorem dX3_advance_119 : decode cX3_advance 119 = .ok (.goto 4, 3) := by decide +kernel
theorem dX3_advance_122 : decode cX3_advance 122 = .ok (.iconst 4, 1) := by decide +kernel
theorem dX3_advance_123 : decode cX3_advance 123 = .ok (.putfield 35, 3) := by decide +kernel
theorem dX3_advance_126 : decode cX3_advance 126 = .ok (.aload_n 0, 1) := by decide +kernel
theorem dX3_advance_127 : decode cX3_advance 127 = .ok (.dup, 1) := by decide +kernel
theorem dX3_advance_128 : decode cX3_advance 128 = .ok (.getfield 22, 3) := by decide +kernel
theorem dX3_advance_131 : decode cX3_advance 131 = .ok (.iconst 1, 1) := by decide +kernel
theorem dX3_advance_132 : decode cX3_advance 132 = .ok (.iadd, 1) := by decide +kernel
theorem dX3_advance_133 : decode cX3_advance 133 = .ok (.putfield 22, 3) := by decide +kernel
theorem dX3_advance_136 : decode cX3_advance 136 = .ok (.return_, 1) := by decide +kernel
theorem dX3_readNumber_0 : decode cX3_readNumber 0 = .ok (.aload_n 0, 1) := by decide +kernel
theorem dX3_readNumber_1 : decode cX3_readNumber 1 = .ok (.iconst 0, 1) := by decide +kernel
theorem dX3_readNumber_2 : decode cX3_readNumber 2 = .ok (.putfield 51, 3) := by decide +kernel
theorem dX3_readNumber_5 : decode cX3_readNumber 5 = .ok (.aload_n 0, 1) := by decide +kernel
theorem dX3_readNumber_6 : decode cX3_readNumber 6 = .ok (.getfield 22, 3) := by decide +kernel
theorem dX3_readNumber_9 : decode cX3_readNumber 9 = .ok (.aload_n 0, 1) := by decide +kernel
theorem dX3_readNumber_10 : decode cX3_readNumber 10 = .ok (.getfield 19, 3) := by decide +kernel
theorem dX3_readNumber_13 : decode cX3_readNumber 13 = .ok (.if_icmp .ge 59, 3) := by decide +kernel
theorem dX3_readNumber_16 : decode cX3_readNumber 16 = .ok (.aload_n 0, 1) := by decide +kernel
theorem dX3_readNumber_17 : decode cX3_readNumber 17 = .ok (.aload_n 0, 1) := by decide +kernel
theorem dX3_readNumber_18 : decode cX3_readNumber 18 = .ok (.getfield 22, 3) := by decide +kernel
theorem dX3_readNumber_21 : decode cX3_readNumber 21 = .ok (.invokevirtual 28, 3) := by decide +kernel
theorem dX3_readNumber_24 : decode cX3_readNumber 24 = .ok (.invokestatic 38, 3) := by decide +kernel
theorem dX3_readNumber_27 : decode cX3_readNumber 27 = .ok (.ifCond .eq 45, 3) := by decide +kernel
theorem dX3_readNumber_30 : decode cX3_readNumber 30 = .ok (.aload_n 0, 1) := by decide +kernel
theorem dX3_readNumber_31 : decode cX3_readNumber 31 = .ok (.bipush 10, 2) := by decide +kernel
theorem dX3_readNumber_33 : decode cX3_readNumber 33 = .ok (.aload_n 0, 1) := by decide +kernel
theorem dX3_readNumber_34 : decode cX3_readNumber 34 = .ok (.getfield 51, 3) := by decide +kernel
theorem dX3_readNumber_37 : decode cX3_readNumber 37 = .ok (.imul, 1) := by decide +kernel
theorem dX3_readNumber_38 : decode cX3_readNumber 38 = .ok (.aload_n 0, 1) := by decide +kernel
theorem dX3_readNumber_39 : decode cX3_readNumber 39 = .ok (.aload_n 0, 1) := by decide +kernel
theorem dX3_readNumber_40 : decode cX3_readNumber 40 = .ok (.getfield 22, 3) := by decide +kernel
theorem dX3_readNumber_43 : decode cX3_readNumber 43 = .ok (.invokevirtual 28, 3) := by decide +kernel
theorem dX3_readNumber_46 : decode cX3_readNumber 46 = .ok (.bipush 48, 2) := by decide +kernel
theorem dX3_readNumber_48 : decode cX3_readNumber 48 = .ok (.isub, 1) := by decide +kernel
theorem dX3_readNumber_49 : decode cX3_readNumber 49 = .ok (.iadd, 1) := by decide +kernel
theorem dX3_readNumber_50 : decode cX3_readNumber 50 = .ok (.sipush 1000, 3) := by decide +kernel
theorem dX3_readNumber_53 : decode cX3_readNumber 53 = .ok (.invokestatic 54, 3) := by decide +kernel
theorem dX3_readNumber_56 : decode cX3_readNumber 56 = .ok (.putfield 51, 3) := by decide +kernel
theorem dX3_readNumber_59 : decode cX3_readNumber 59 = .ok (.aload_n 0, 1) := by decide +kernel
theorem dX3_readNumber_60 : decode cX3_readNumber 60 = .ok (.dup, 1) := by decide +kernel
theorem dX3_readNumber_61 : decode cX3_readNumber 61 = .ok (.getfield 22, 3) := by decide +kernel
theorem dX3_readNumber_64 : decode cX3_readNumber 64 = .ok (.iconst 1, 1) := by decide +kernel
theorem dX3_readNumber_65 : decode cX3_readNumber 65 = .ok (.iadd, 1) := by decide +kernel
theorem dX3_readNumber_66 : decode cX3_readNumber 66 = .ok (.putfield 22, 3) := by decide +kernel
theorem dX3_readNumber_69 : decode cX3_readNumber 69 = .ok (.goto (-64), 3) := by decide +kernel
theorem dX3_readNumber_72 : decode cX3_readNumber 72 = .ok (.return_, 1) := by decide +kernel
theorem dX3_readWord_0 : decode cX3_readWord 0 = .ok (.aload_n 0, 1) := by decide +kernel
theorem dX3_readWord_1 : decode cX3_readWord 1 = .ok (.iconst 0, 1) := by decide +kernel
theorem dX3_readWord_2 : decode cX3_readWord 2 = .ok (.putfield 60, 3) := by decide +kernel
theorem dX3_readWord_5 : decode cX3_readWord 5 = .ok (.aload_n 0, 1) := by decide +kernel
theorem dX3_readWord_6 : decode cX3_readWord 6 = .ok (.iconst 0, 1) := by decide +kernel
theorem dX3_readWord_7 : decode cX3_readWord 7 = .ok (.putfield 63, 3) := by decide +kernel
theorem dX3_readWord_10 : decode cX3_readWord 10 = .ok (.aload_n 0, 1) := by decide +kernel
theorem dX3_readWord_11 : decode cX3_readWord 11 = .ok (.getfield 22, 3) := by decide +kernel
theorem dX3_readWord_14 : decode cX3_readWord 14 = .ok (.aload_n 0, 1) := by decide +kernel
theorem dX3_readWord_15 : decode cX3_readWord 15 = .ok (.getfield 19, 3) := by decide +kernel
theorem dX3_readWord_18 : decode cX3_readWord 18 = .ok (.if_icmp .ge 59, 3) := by decide +kernel
theorem dX3_readWord_21 : decode cX3_readWord 21 = .ok (.aload_n 0, 1) := by decide +kernel
theorem dX3_readWord_22 : decode cX3_readWord 22 = .ok (.aload_n 0, 1) := by decide +kernel
theorem dX3_readWord_23 : decode cX3_readWord 23 = .ok (.getfield 22, 3) := by decide +kernel
theorem dX3_readWord_26 : decode cX3_readWord 26 = .ok (.invokevirtual 28, 3) := by decide +kernel
theorem dX3_readWord_29 : decode cX3_readWord 29 = .ok (.invokestatic 45, 3) := by decide +kernel
theorem dX3_readWord_32 : decode cX3_readWord 32 = .ok (.ifCond .eq 45, 3) := by decide +kernel
theorem dX3_readWord_35 : decode cX3_readWord 35 = .ok (.aload_n 0, 1) := by decide +kernel
theorem dX3_readWord_36 : decode cX3_readWord 36 = .ok (.dup, 1) := by decide +kernel
theorem dX3_readWord_37 : decode cX3_readWord 37 = .ok (.getfield 60, 3) := by decide +kernel
theorem dX3_readWord_40 : decode cX3_readWord 40 = .ok (.iconst 1, 1) := by decide +kernel
theorem dX3_readWord_41 : decode cX3_readWord 41 = .ok (.iadd, 1) := by decide +kernel
theorem dX3_readWord_42 : decode cX3_readWord 42 = .ok (.putfield 60, 3) := by decide +kernel
theorem dX3_readWord_45 : decode cX3_readWord 45 = .ok (.aload_n 0, 1) := by decide +kernel
theorem dX3_readWord_46 : decode cX3_readWord 46 = .ok (.aload_n 0, 1) := by decide +kernel
theorem dX3_readWord_47 : decode cX3_readWord 47 = .ok (.getfield 63, 3) := by decide +kernel
theorem dX3_readWord_50 : decode cX3_readWord 50 = .ok (.aload_n 0, 1) := by decide +kernel
theorem dX3_readWord_51 : decode cX3_readWord 51 = .ok (.aload_n 0, 1) := by decide +kernel
theorem dX3_readWord_52 : decode cX3_readWord 52 = .ok (.getfield 22, 3) := by decide +kernel
theorem dX3_readWord_55 : decode cX3_readWord 55 = .ok (.invokevirtual 28, 3) := by decide +kernel
theorem dX3_readWord_58 : decode cX3_readWord 58 = .ok (.invokestatic 66, 3) := by decide +kernel
theorem dX3_readWord_61 : decode cX3_readWord 61 = .ok (.putfield 63, 3) := by decide +kernel
theorem dX3_readWord_64 : decode cX3_readWord 64 = .ok (.aload_n 0, 1) := by decide +kernel
theorem dX3_readWord_65 : decode cX3_readWord 65 = .ok (.dup, 1) := by decide +kernel
theorem dX3_readWord_66 : decode cX3_readWord 66 = .ok (.getfield 22, 3) := by decide +kernel
theorem dX3_readWord_69 : decode cX3_readWord 69 = .ok (.iconst 1, 1) := by decide +kernel
theorem dX3_readWord_70 : decode cX3_readWord 70 = .ok (.iadd, 1) := by decide +kernel
theorem dX3_readWord_71 : decode cX3_readWord 71 = .ok (.putfield 22, 3) := by decide +kernel
theorem dX3_readWord_74 : decode cX3_readWord 74 = .ok (.goto (-64), 3) := by decide +kernel
theorem dX3_readWord_77 : decode cX3_readWord 77 = .ok (.return_, 1) := by decide +kernel
theorem dX3_isWord_0 : decode cX3_isWord 0 = .ok (.aload_n 0, 1) := by decide +kernel
theorem dX3_isWord_1 : decode cX3_isWord 1 = .ok (.getfield 35, 3) := by decide +kernel
theorem dX3_isWord_4 : decode cX3_isWord 4 = .ok (.iconst 2, 1) := by decide +kernel
theorem dX3_isWord_5 : decode cX3_isWord 5 = .ok (.if_icmp .ne 14, 3) := by decide +kernel
theorem dX3_isWord_8 : decode cX3_isWord 8 = .ok (.aload_n 0, 1) := by decide +kernel
theorem dX3_isWord_9 : decode cX3_isWord 9 = .ok (.getfield 60, 3) := by decide +kernel
theorem dX3_isWord_12 : decode cX3_isWord 12 = .ok (.aload_n 1, 1) := by decide +kernel
theorem dX3_isWord_13 : decode cX3_isWord 13 = .ok (.invokevirtual 69, 3) := by decide +kernel
theorem dX3_isWord_16 : decode cX3_isWord 16 = .ok (.if_icmp .eq 5, 3) := by decide +kernel
theorem dX3_isWord_19 : decode cX3_isWord 19 = .ok (.iconst 0, 1) := by decide +kernel
theorem dX3_isWord_20 : decode cX3_isWord 20 = .ok (.ireturn, 1) := by decide +kernel
theorem dX3_isWord_21 : decode cX3_isWord 21 = .ok (.iconst 0, 1) := by decide +kernel
theorem dX3_isWord_22 : decode cX3_isWord 22 = .ok (.istore_n 2, 1) := by decide +kernel
theorem dX3_isWord_23 : decode cX3_isWord 23 = .ok (.iconst 0, 1) := by decide +kernel
theorem dX3_isWord_24 : decode cX3_isWord 24 = .ok (.istore_n 3, 1) := by decide +kernel
theorem dX3_isWord_25 : decode cX3_isWord 25 = .ok (.iload_n 3, 1) := by decide +kernel
theorem dX3_isWord_26 : decode cX3_isWord 26 = .ok (.aload_n 1, 1) := by decide +kernel
theorem dX3_isWord_27 : decode cX3_isWord 27 = .ok (.invokevirtual 69, 3) := by decide +kernel
theorem dX3_isWord_30 : decode cX3_isWord 30 = .ok (.if_icmp .ge 19, 3) := by decide +kernel
theorem dX3_isWord_33 : decode cX3_isWord 33 = .ok (.iload_n 2, 1) := by decide +kernel
theorem dX3_isWord_34 : decode cX3_isWord 34 = .ok (.aload_n 1, 1) := by decide +kernel
theorem dX3_isWord_35 : decode cX3_isWord 35 = .ok (.iload_n 3, 1) := by decide +kernel
theorem dX3_isWord_36 : decode cX3_isWord 36 = .ok (.invokevirtual 75, 3) := by decide +kernel
theorem dX3_isWord_39 : decode cX3_isWord 39 = .ok (.invokestatic 66, 3) := by decide +kernel
theorem dX3_isWord_42 : decode cX3_isWord 42 = .ok (.istore_n 2, 1) := by decide +kernel
theorem dX3_isWord_43 : decode cX3_isWord 43 = .ok (.iinc 3 1, 3) := by decide +kernel
theorem dX3_isWord_46 : decode cX3_isWord 46 = .ok (.goto (-21), 3) := by decide +kernel
theorem dX3_isWord_49 : decode cX3_isWord 49 = .ok (.aload_n 0, 1) := by decide +kernel
theorem dX3_isWord_50 : decode cX3_isWord 50 = .ok (.getfield 63, 3) := by decide +kernel
theorem dX3_isWord_53 : decode cX3_isWord 53 = .ok (.iload_n 2, 1) := by decide +kernel
theorem dX3_isWord_54 : decode cX3_isWord 54 = .ok (.if_icmp .ne 7, 3) := by decide +kernel
theorem dX3_isWord_57 : decode cX3_isWord 57 = .ok (.iconst 1, 1) := by decide +kernel
theorem dX3_isWord_58 : decode cX3_isWord 58 = .ok (.goto 4, 3) := by decide +kernel
theorem dX3_isWord_61 : decode cX3_isWord 61 = .ok (.iconst 0, 1) := by decide +kernel
theorem dX3_isWord_62 : decode cX3_isWord 62 = .ok (.ireturn, 1) := by decide +kernel
theorem dX3_nameOfFirst_0 : decode cX3_nameOfFirst 0 = .ok (.iload_n 1, 1) := by decide +kernel
theorem dX3_nameOfFirst_1 : decode cX3_nameOfFirst 1 = .ok (.iconst 1, 1) := by decide +kernel
theorem dX3_nameOfFirst_2 : decode cX3_nameOfFirst 2 = .ok (.if_icmp .lt 9, 3) := by decide +kernel
theorem dX3_nameOfFirst_5 : decode cX3_nameOfFirst 5 = .ok (.iload_n 1, 1) := by decide +kernel
theorem dX3_nameOfFirst_6 : decode cX3_nameOfFirst 6 = .ok (.bipush 6, 2) := by decide +kernel
theorem dX3_nameOfFirst_8 : decode cX3_nameOfFirst 8 = .ok (.if_icmp .le 5, 3) := by decide +kernel
theorem dX3_nameOfFirst_11 : decode cX3_nameOfFirst 11 = .ok (.iconst 0, 1) := by decide +kernel
theorem dX3_nameOfFirst_12 : decode cX3_nameOfFirst 12 = .ok (.ireturn, 1) := by decide +kernel
theorem dX3_nameOfFirst_13 : decode cX3_nameOfFirst 13 = .ok (.iconst 0, 1) := by decide +kernel
theorem dX3_nameOfFirst_14 : decode cX3_nameOfFirst 14 = .ok (.istore_n 2, 1) := by decide +kernel
theorem dX3_nameOfFirst_15 : decode cX3_nameOfFirst 15 = .ok (.iconst 0, 1) := by decide +kernel
theorem dX3_nameOfFirst_16 : decode cX3_nameOfFirst 16 = .ok (.istore_n 3, 1) := by decide +kernel
theorem dX3_nameOfFirst_17 : decode cX3_nameOfFirst 17 = .ok (.iload_n 3, 1) := by decide +kernel
theorem dX3_nameOfFirst_18 : decode cX3_nameOfFirst 18 = .ok (.iload_n 1, 1) := by decide +kernel
theorem dX3_nameOfFirst_19 : decode cX3_nameOfFirst 19 = .ok (.if_icmp .ge 32, 3) := by decide +kernel
theorem dX3_nameOfFirst_22 : decode cX3_nameOfFirst 22 = .ok (.aload_n 0, 1) := by decide +kernel
theorem dX3_nameOfFirst_23 : decode cX3_nameOfFirst 23 = .ok (.iload_n 3, 1) := by decide +kernel
theorem dX3_nameOfFirst_24 : decode cX3_nameOfFirst 24 = .ok (.invokevirtual 28, 3) := by decide +kernel
theorem dX3_nameOfFirst_27 : decode cX3_nameOfFirst 27 = .ok (.invokestatic 45, 3) := by decide +kernel
theorem dX3_nameOfFirst_30 : decode cX3_nameOfFirst 30 = .ok (.ifCond .ne 5, 3) := by decide +kernel
theorem dX3_nameOfFirst_33 : decode cX3_nameOfFirst 33 = .ok (.iconst 0, 1) := by decide +kernel
theorem dX3_nameOfFirst_34 : decode cX3_nameOfFirst 34 = .ok (.ireturn, 1) := by decide +kernel
theorem dX3_nameOfFirst_35 : decode cX3_nameOfFirst 35 = .ok (.iload_n 2, 1) := by decide +kernel
theorem dX3_nameOfFirst_36 : decode cX3_nameOfFirst 36 = .ok (.aload_n 0, 1) := by decide +kernel
theorem dX3_nameOfFirst_37 : decode cX3_nameOfFirst 37 = .ok (.iload_n 3, 1) := by decide +kernel
theorem dX3_nameOfFirst_38 : decode cX3_nameOfFirst 38 = .ok (.invokevirtual 28, 3) := by decide +kernel
theorem dX3_nameOfFirst_41 : decode cX3_nameOfFirst 41 = .ok (.invokestatic 66, 3) := by decide +kernel
theorem dX3_nameOfFirst_44 : decode cX3_nameOfFirst 44 = .ok (.istore_n 2, 1) := by decide +kernel
theorem dX3_nameOfFirst_45 : decode cX3_nameOfFirst 45 = .ok (.iinc 3 1, 3) := by decide +kernel
theorem dX3_nameOfFirst_48 : decode cX3_nameOfFirst 48 = .ok (.goto (-31), 3) := by decide +kernel
theorem dX3_nameOfFirst_51 : decode cX3_nameOfFirst 51 = .ok (.iload_n 2, 1) := by decide +kernel
theorem dX3_nameOfFirst_52 : decode cX3_nameOfFirst 52 = .ok (.ireturn, 1) := by decide +kernel
theorem dX3_byteAt_0 : decode cX3_byteAt 0 = .ok (.iload_n 1, 1) := by decide +kernel
theorem dX3_byteAt_1 : decode cX3_byteAt 1 = .ok (.ifCond .lt 29, 3) := by decide +kernel
theorem dX3_byteAt_4 : decode cX3_byteAt 4 = .ok (.iload_n 1, 1) := by decide +kernel
theorem dX3_byteAt_5 : decode cX3_byteAt 5 = .ok (.aload_n 0, 1) := by decide +kernel
theorem dX3_byteAt_6 : decode cX3_byteAt 6 = .ok (.getfield 15, 3) := by decide +kernel
theorem dX3_byteAt_9 : decode cX3_byteAt 9 = .ok (.if_icmp .ge 21, 3) := by decide +kernel
theorem dX3_byteAt_12 : decode cX3_byteAt 12 = .ok (.iload_n 1, 1) := by decide +kernel
theorem dX3_byteAt_13 : decode cX3_byteAt 13 = .ok (.aload_n 0, 1) := by decide +kernel
theorem dX3_byteAt_14 : decode cX3_byteAt 14 = .ok (.getfield 9, 3) := by decide +kernel
theorem dX3_byteAt_17 : decode cX3_byteAt 17 = .ok (.arraylength, 1) := by decide +kernel
theorem dX3_byteAt_18 : decode cX3_byteAt 18 = .ok (.if_icmp .ge 12, 3) := by decide +kernel
theorem dX3_byteAt_21 : decode cX3_byteAt 21 = .ok (.aload_n 0, 1) := by decide +kernel
theorem dX3_byteAt_22 : decode cX3_byteAt 22 = .ok (.getfield 9, 3) := by decide +kernel
theorem dX3_byteAt_25 : decode cX3_byteAt 25 = .ok (.iload_n 1, 1) := by decide +kernel
theorem dX3_byteAt_26 : decode cX3_byteAt 26 = .ok (.baload, 1) := by decide +kernel
theorem dX3_byteAt_27 : decode cX3_byteAt 27 = .ok (.goto 4, 3) := by decide +kernel
theorem dX3_byteAt_30 : decode cX3_byteAt 30 = .ok (.iconst 0, 1) := by decide +kernel
theorem dX3_byteAt_31 : decode cX3_byteAt 31 = .ok (.ireturn, 1) := by decide +kernel
theorem dX3_nameWith_0 : decode cX3_nameWith 0 = .ok (.bipush 27, 2) := by decide +kernel
theorem dX3_nameWith_2 : decode cX3_nameWith 2 = .ok (.iload_n 0, 1) := by decide +kernel
theorem dX3_nameWith_3 : decode cX3_nameWith 3 = .ok (.imul, 1) := by decide +kernel
theorem dX3_nameWith_4 : decode cX3_nameWith 4 = .ok (.iload_n 1, 1) := by decide +kernel
theorem dX3_nameWith_5 : decode cX3_nameWith 5 = .ok (.bipush 97, 2) := by decide +kernel
theorem dX3_nameWith_7 : decode cX3_nameWith 7 = .ok (.isub, 1) := by decide +kernel
theorem dX3_nameWith_8 : decode cX3_nameWith 8 = .ok (.iconst 1, 1) := by decide +kernel
theorem dX3_nameWith_9 : decode cX3_nameWith 9 = .ok (.iadd, 1) := by decide +kernel
theorem dX3_nameWith_10 : decode cX3_nameWith 10 = .ok (.iadd, 1) := by decide +kernel
theorem dX3_nameWith_11 : decode cX3_nameWith 11 = .ok (.ireturn, 1) := by decide +kernel
theorem dX3_isDigit_0 : decode cX3_isDigit 0 = .ok (.iload_n 0, 1) := by decide +kernel
theorem dX3_isDigit_1 : decode cX3_isDigit 1 = .ok (.bipush 48, 2) := by decide +kernel
theorem dX3_isDigit_3 : decode cX3_isDigit 3 = .ok (.if_icmp .lt 13, 3) := by decide +kernel
theorem dX3_isDigit_6 : decode cX3_isDigit 6 = .ok (.iload_n 0, 1) := by decide +kernel
theorem dX3_isDigit_7 : decode cX3_isDigit 7 = .ok (.bipush 57, 2) := by decide +kernel
theorem dX3_isDigit_9 : decode cX3_isDigit 9 = .ok (.if_icmp .gt 7, 3) := by decide +kernel
theorem dX3_isDigit_12 : decode cX3_isDigit 12 = .ok (.iconst 1, 1) := by decide +kernel
theorem dX3_isDigit_13 : decode cX3_isDigit 13 = .ok (.goto 4, 3) := by decide +kernel
theorem dX3_isDigit_16 : decode cX3_isDigit 16 = .ok (.iconst 0, 1) := by decide +kernel
theorem dX3_isDigit_17 : decode cX3_isDigit 17 = .ok (.ireturn, 1) := by decide +kernel
theorem dX3_isLetter_0 : decode cX3_isLetter 0 = .ok (.iload_n 0, 1) := by decide +kernel
theorem dX3_isLetter_1 : decode cX3_isLetter 1 = .ok (.bipush 97, 2) := by decide +kernel
theorem dX3_isLetter_3 : decode cX3_isLetter 3 = .ok (.if_icmp .lt 13, 3) := by decide +kernel
theorem dX3_isLetter_6 : decode cX3_isLetter 6 = .ok (.iload_n 0, 1) := by decide +kernel
theorem dX3_isLetter_7 : decode cX3_isLetter 7 = .ok (.bipush 122, 2) := by decide +kernel
theorem dX3_isLetter_9 : decode cX3_isLetter 9 = .ok (.if_icmp .gt 7, 3) := by decide +kernel
theorem dX3_isLetter_12 : decode cX3_isLetter 12 = .ok (.iconst 1, 1) := by decide +kernel
theorem dX3_isLetter_13 : decode cX3_isLetter 13 = .ok (.goto 4, 3) := by decide +kernel
theorem dX3_isLetter_16 : decode cX3_isLetter 16 = .ok (.iconst 0, 1) := by decide +kernel
theorem dX3_isLetter_17 : decode cX3_isLetter 17 = .ok (.ireturn, 1) := by decide +kernel
theorem dX4_init_0 : decode cX4_init 0 = .ok (.aload_n 0, 1) := by decide +kernel
theorem dX4_init_1 : decode cX4_init 1 = .ok (.invokespecial 3, 3) := by decide +kernel
theorem dX4_init_4 : decode cX4_init 4 = .ok (.aload_n 0, 1) := by decide +kernel
theorem dX4_init_5 : decode cX4_init 5 = .ok (.bipush 10, 2) := by decide +kernel
theorem dX4_init_7 : decode cX4_init 7 = .ok (.newarray .int, 2) := by decide +kernel
theorem dX4_init_9 : decode cX4_init 9 = .ok (.putfield 9, 3) := by decide +kernel
theorem dX4_init_12 : decode cX4_init 12 = .ok (.return_, 1) := by decide +kernel
theorem dX4_copyFrom_0 : decode cX4_copyFrom 0 = .ok (.aload_n 0, 1) := by decide +kernel
theorem dX4_copyFrom_1 : decode cX4_copyFrom 1 = .ok (.aload_n 1, 1) := by decide +kernel
theorem dX4_copyFrom_2 : decode cX4_copyFrom 2 = .ok (.getfield 15, 3) := by decide +kernel
theorem dX4_copyFrom_5 : decode cX4_copyFrom 5 = .ok (.putfield 15, 3) := by decide +kernel
theorem dX4_copyFrom_8 : decode cX4_copyFrom 8 = .ok (.iconst 0, 1) := by decide +kernel
theorem dX4_copyFrom_9 : decode cX4_copyFrom 9 = .ok (.istore_n 2, 1) := by decide +kernel
theorem dX4_copyFrom_10 : decode cX4_copyFrom 10 = .ok (.iload_n 2, 1) := by decide +kernel
theorem dX4_copyFrom_11 : decode cX4_copyFrom 11 = .ok (.aload_n 0, 1) := by decide +kernel
theorem dX4_copyFrom_12 : decode cX4_copyFrom 12 = .ok (.getfield 9, 3) := by decide +kernel
theorem dX4_copyFrom_15 : decode cX4_copyFrom 15 = .ok (.arraylength, 1) := by decide +kernel
theorem dX4_copyFrom_16 : decode cX4_copyFrom 16 = .ok (.if_icmp .ge 30, 3) := by decide +kernel
theorem dX4_copyFrom_19 : decode cX4_copyFrom 19 = .ok (.iload_n 2, 1) := by decide +kernel
theorem dX4_copyFrom_20 : decode cX4_copyFrom 20 = .ok (.aload_n 1, 1) := by decide +kernel
theorem dX4_copyFrom_21 : decode cX4_copyFrom 21 = .ok (.getfield 9, 3) := by decide +kernel
theorem dX4_copyFrom_24 : decode cX4_copyFrom 24 = .ok (.arraylength, 1) := by decide +kernel
theorem dX4_copyFrom_25 : decode cX4_copyFrom 25 = .ok (.if_icmp .ge 21, 3) := by decide +kernel
theorem dX4_copyFrom_28 : decode cX4_copyFrom 28 = .ok (.aload_n 0, 1) := by decide +kernel
theorem dX4_copyFrom_29 : decode cX4_copyFrom 29 = .ok (.getfield 9, 3) := by decide +kernel
theorem dX4_copyFrom_32 : decode cX4_copyFrom 32 = .ok (.iload_n 2, 1) := by decide +kernel
theorem dX4_copyFrom_33 : decode cX4_copyFrom 33 = .ok (.aload_n 1, 1) := by decide +kernel
theorem dX4_copyFrom_34 : decode cX4_copyFrom 34 = .ok (.getfield 9, 3) := by decide +kernel
theorem dX4_copyFrom_37 : decode cX4_copyFrom 37 = .ok (.iload_n 2, 1) := by decide +kernel
theorem dX4_copyFrom_38 : decode cX4_copyFrom 38 = .ok (.iaload, 1) := by decide +kernel
theorem dX4_copyFrom_39 : decode cX4_copyFrom 39 = .ok (.iastore, 1) := by decide +kernel
theorem dX4_copyFrom_40 : decode cX4_copyFrom 40 = .ok (.iinc 2 1, 3) := by decide +kernel
theorem dX4_copyFrom_43 : decode cX4_copyFrom 43 = .ok (.goto (-33), 3) := by decide +kernel
theorem dX4_copyFrom_46 : decode cX4_copyFrom 46 = .ok (.return_, 1) := by decide +kernel
theorem dX4_isFull_0 : decode cX4_isFull 0 = .ok (.aload_n 0, 1) := by decide +kernel
theorem dX4_isFull_1 : decode cX4_isFull 1 = .ok (.getfield 15, 3) := by decide +kernel
theorem dX4_isFull_4 : decode cX4_isFull 4 = .ok (.aload_n 0, 1) := by decide +kernel
theorem dX4_isFull_5 : decode cX4_isFull 5 = .ok (.getfield 9, 3) := by decide +kernel
theorem dX4_isFull_8 : decode cX4_isFull 8 = .ok (.arraylength, 1) := by decide +kernel
theorem dX4_isFull_9 : decode cX4_isFull 9 = .ok (.if_icmp .lt 7, 3) := by decide +kernel
theorem dX4_isFull_12 : decode cX4_isFull 12 = .ok (.iconst 1, 1) := by decide +kernel
theorem dX4_isFull_13 : decode cX4_isFull 13 = .ok (.goto 4, 3) := by decide +kernel
theorem dX4_isFull_16 : decode cX4_isFull 16 = .ok (.iconst 0, 1) := by decide +kernel
theorem dX4_isFull_17 : decode cX4_isFull 17 = .ok (.ireturn, 1) := by decide +kernel
theorem dX4_hasPlace_0 : decode cX4_hasPlace 0 = .ok (.iload_n 1, 1) := by decide +kernel
theorem dX4_hasPlace_1 : decode cX4_hasPlace 1 = .ok (.ifCond .lt 24, 3) := by decide +kernel
theorem dX4_hasPlace_4 : decode cX4_hasPlace 4 = .ok (.iload_n 1, 1) := by decide +kernel
theorem dX4_hasPlace_5 : decode cX4_hasPlace 5 = .ok (.aload_n 0, 1) := by decide +kernel
theorem dX4_hasPlace_6 : decode cX4_hasPlace 6 = .ok (.getfield 15, 3) := by decide +kernel
theorem dX4_hasPlace_9 : decode cX4_hasPlace 9 = .ok (.if_icmp .ge 16, 3) := by decide +kernel
theorem dX4_hasPlace_12 : decode cX4_hasPlace 12 = .ok (.iload_n 1, 1) := by decide +kernel
theorem dX4_hasPlace_13 : decode cX4_hasPlace 13 = .ok (.aload_n 0, 1) := by decide +kernel
theorem dX4_hasPlace_14 : decode cX4_hasPlace 14 = .ok (.getfield 9, 3) := by decide +kernel
theorem dX4_hasPlace_17 : decode cX4_hasPlace 17 = .ok (.arraylength, 1) := by decide +kernel
theorem dX4_hasPlace_18 : decode cX4_hasPlace 18 = .ok (.if_icmp .ge 7, 3) := by decide +kernel
theorem dX4_hasPlace_21 : decode cX4_hasPlace 21 = .ok (.iconst 1, 1) := by decide +kernel
theorem dX4_hasPlace_22 : decode cX4_hasPlace 22 = .ok (.goto 4, 3) := by decide +kernel
theorem dX4_hasPlace_25 : decode cX4_hasPlace 25 = .ok (.iconst 0, 1) := by decide +kernel
theorem dX4_hasPlace_26 : decode cX4_hasPlace 26 = .ok (.ireturn, 1) := by decide +kernel
theorem dX4_cardAt_0 : decode cX4_cardAt 0 = .ok (.aload_n 0, 1) := by decide +kernel
theorem dX4_cardAt_1 : decode cX4_cardAt 1 = .ok (.iload_n 1, 1) := by decide +kernel
theorem dX4_cardAt_2 : decode cX4_cardAt 2 = .ok (.invokevirtual 19, 3) := by decide +kernel
theorem dX4_cardAt_5 : decode cX4_cardAt 5 = .ok (.ifCond .eq 12, 3) := by decide +kernel
theorem dX4_cardAt_8 : decode cX4_cardAt 8 = .ok (.aload_n 0, 1) := by decide +kernel
theorem dX4_cardAt_9 : decode cX4_cardAt 9 = .ok (.getfield 9, 3) := by decide +kernel
theorem dX4_cardAt_12 : decode cX4_cardAt 12 = .ok (.iload_n 1, 1) := by decide +kernel
theorem dX4_cardAt_13 : decode cX4_cardAt 13 = .ok (.iaload, 1) := by decide +kernel
theorem dX4_cardAt_14 : decode cX4_cardAt 14 = .ok (.goto 4, 3) := by decide +kernel
theorem dX4_cardAt_17 : decode cX4_cardAt 17 = .ok (.iconst (-1), 1) := by decide +kernel
theorem dX4_cardAt_18 : decode cX4_cardAt 18 = .ok (.ireturn, 1) := by decide +kernel
theorem dX4_placeOf_0 : decode cX4_placeOf 0 = .ok (.iconst 0, 1) := by decide +kernel
theorem dX4_placeOf_1 : decode cX4_placeOf 1 = .ok (.istore_n 2, 1) := by decide +kernel
theorem dX4_placeOf_2 : decode cX4_placeOf 2 = .ok (.iload_n 2, 1) := by decide +kernel
theorem dX4_placeOf_3 : decode cX4_placeOf 3 = .ok (.aload_n 0, 1) := by decide +kernel
theorem dX4_placeOf_4 : decode cX4_placeOf 4 = .ok (.getfield 15, 3) := by decide +kernel
theorem dX4_placeOf_7 : decode cX4_placeOf 7 = .ok (.if_icmp .ge 30, 3) := by decide +kernel
theorem dX4_placeOf_10 : decode cX4_placeOf 10 = .ok (.iload_n 2, 1) := by decide +kernel
theorem dX4_placeOf_11 : decode cX4_placeOf 11 = .ok (.aload_n 0, 1) := by decide +kernel
theorem dX4_placeOf_12 : decode cX4_placeOf 12 = .ok (.getfield 9, 3) := by decide +kernel
theorem dX4_placeOf_15 : decode cX4_placeOf 15 = .ok (.arraylength, 1) := by decide +kernel
theorem dX4_placeOf_16 : decode cX4_placeOf 16 = .ok (.if_icmp .ge 21, 3) := by decide +kernel
theorem dX4_placeOf_19 : decode cX4_placeOf 19 = .ok (.aload_n 0, 1) := by decide +kernel
theorem dX4_placeOf_20 : decode cX4_placeOf 20 = .ok (.getfield 9, 3) := by decide +kernel
theorem dX4_placeOf_23 : decode cX4_placeOf 23 = .ok (.iload_n 2, 1) := by decide +kernel
theorem dX4_placeOf_24 : decode cX4_placeOf 24 = .ok (.iaload, 1) := by decide +kernel
theorem dX4_placeOf_25 : decode cX4_placeOf 25 = .ok (.iload_n 1, 1) := by decide +kernel
theorem dX4_placeOf_26 : decode cX4_placeOf 26 = .ok (.if_icmp .ne 5, 3) := by decide +kernel
theorem dX4_placeOf_29 : decode cX4_placeOf 29 = .ok (.iload_n 2, 1) := by decide +kernel
theorem dX4_placeOf_30 : decode cX4_placeOf 30 = .ok (.ireturn, 1) := by decide +kernel
theorem dX4_placeOf_31 : decode cX4_placeOf 31 = .ok (.iinc 2 1, 3) := by decide +kernel
theorem dX4_placeOf_34 : decode cX4_placeOf 34 = .ok (.goto (-32), 3) := by decide +kernel
theorem dX4_placeOf_37 : decode cX4_placeOf 37 = .ok (.iconst (-1), 1) := by decide +kernel
theorem dX4_placeOf_38 : decode cX4_placeOf 38 = .ok (.ireturn, 1) := by decide +kernel
theorem dX4_firstPlaceWithCard_0 : decode cX4_firstPlaceWithCard 0 = .ok (.iconst 0, 1) := by decide +kernel
theorem dX4_firstPlaceWithCard_1 : decode cX4_firstPlaceWithCard 1 = .ok (.istore_n 1, 1) := by decide +kernel
theorem dX4_firstPlaceWithCard_2 : decode cX4_firstPlaceWithCard 2 = .ok (.iload_n 1, 1) := by decide +kernel
theorem dX4_firstPlaceWithCard_3 : decode cX4_firstPlaceWithCard 3 = .ok (.aload_n 0, 1) := by decide +kernel
theorem dX4_firstPlaceWithCard_4 : decode cX4_firstPlaceWithCard 4 = .ok (.getfield 15, 3) := by decide +kernel
theorem dX4_firstPlaceWithCard_7 : decode cX4_firstPlaceWithCard 7 = .ok (.if_icmp .ge 30, 3) := by decide +kernel
theorem dX4_firstPlaceWithCard_10 : decode cX4_firstPlaceWithCard 10 = .ok (.iload_n 1, 1) := by decide +kernel
theorem dX4_firstPlaceWithCard_11 : decode cX4_firstPlaceWithCard 11 = .ok (.aload_n 0, 1) := by decide +kernel
theorem dX4_firstPlaceWithCard_12 : decode cX4_firstPlaceWithCard 12 = .ok (.getfield 9, 3) := by decide +kernel
theorem dX4_firstPlaceWithCard_15 : decode cX4_firstPlaceWithCard 15 = .ok (.arraylength, 1) := by decide +kernel
theorem dX4_firstPlaceWithCard_16 : decode cX4_firstPlaceWithCard 16 = .ok (.if_icmp .ge 21, 3) := by decide +kernel
theorem dX4_firstPlaceWithCard_19 : decode cX4_firstPlaceWithCard 19 = .ok (.aload_n 0, 1) := by decide +kernel
theorem dX4_firstPlaceWithCard_20 : decode cX4_firstPlaceWithCard 20 = .ok (.getfield 9, 3) := by decide +kernel
theorem dX4_firstPlaceWithCard_23 : decode cX4_firstPlaceWithCard 23 = .ok (.iload_n 1, 1) := by decide +kernel
theorem dX4_firstPlaceWithCard_24 : decode cX4_firstPlaceWithCard 24 = .ok (.iaload, 1) := by decide +kernel
theorem dX4_firstPlaceWithCard_25 : decode cX4_firstPlaceWithCard 25 = .ok (.iconst (-1), 1) := by decide +kernel
theorem dX4_firstPlaceWithCard_26 : decode cX4_firstPlaceWithCard 26 = .ok (.if_icmp .eq 5, 3) := by decide +kernel
theorem dX4_firstPlaceWithCard_29 : decode cX4_firstPlaceWithCard 29 = .ok (.iload_n 1, 1) := by decide +kernel
theorem dX4_firstPlaceWithCard_30 : decode cX4_firstPlaceWithCard 30 = .ok (.ireturn, 1) := by decide +kernel
theorem dX4_firstPlaceWithCard_31 : decode cX4_firstPlaceWithCard 31 = .ok (.iinc 1 1, 3) := by decide +kernel
theorem dX4_firstPlaceWithCard_34 : decode cX4_firstPlaceWithCard 34 = .ok (.goto (-32), 3) := by decide +kernel
theorem dX4_firstPlaceWithCard_37 : decode cX4_firstPlaceWithCard 37 = .ok (.iconst (-1), 1) := by decide +kernel
theorem dX4_firstPlaceWithCard_38 : decode cX4_firstPlaceWithCard 38 = .ok (.ireturn, 1) := by decide +kernel
theorem dX4_isFirstWithoutCard_0 : decode cX4_isFirstWithoutCard 0 = .ok (.aload_n 0, 1) := by decide +kernel
theorem dX4_isFirstWithoutCard_1 : decode cX4_isFirstWithoutCard 1 = .ok (.getfield 15, 3) := by decide +kernel
theorem dX4_isFirstWithoutCard_4 : decode cX4_isFirstWithoutCard 4 = .ok (.ifCond .le 17, 3) := by decide +kernel
theorem dX4_isFirstWithoutCard_7 : decode cX4_isFirstWithoutCard 7 = .ok (.aload_n 0, 1) := by decide +kernel
theorem dX4_isFirstWithoutCard_8 : decode cX4_isFirstWithoutCard 8 = .ok (.getfield 9, 3) := by decide +kernel
theorem dX4_isFirstWithoutCard_11 : decode cX4_isFirstWithoutCard 11 = .ok (.iconst 0, 1) := by decide +kernel
theorem dX4_isFirstWithoutCard_12 : decode cX4_isFirstWithoutCard 12 = .ok (.iaload, 1) := by decide +kernel
theorem dX4_isFirstWithoutCard_13 : decode cX4_isFirstWithoutCard 13 = .ok (.iconst (-1), 1) := by decide +kernel
theorem dX4_isFirstWithoutCard_14 : decode cX4_isFirstWithoutCard 14 = .ok (.if_icmp .ne 7, 3) := by decide +kernel
theorem dX4_isFirstWithoutCard_17 : decode cX4_isFirstWithoutCard 17 = .ok (.iconst 1, 1) := by decide +kernel
theorem dX4_isFirstWithoutCard_18 : decode cX4_isFirstWithoutCard 18 = .ok (.goto 4, 3) := by decide +kernel
theorem dX4_isFirstWithoutCard_21 : decode cX4_isFirstWithoutCard 21 = .ok (.iconst 0, 1) := by decide +kernel
theorem dX4_isFirstWithoutCard_22 : decode cX4_isFirstWithoutCard 22 = .ok (.ireturn, 1) := by decide +kernel
theorem dX4_addLast_0 : decode cX4_addLast 0 = .ok (.aload_n 0, 1) := by decide +kernel
theorem dX4_addLast_1 : decode cX4_addLast 1 = .ok (.getfield 15, 3) := by decide +kernel
theorem dX4_addLast_4 : decode cX4_addLast 4 = .ok (.ifCond .lt 35, 3) := by decide +kernel
theorem dX4_addLast_7 : decode cX4_addLast 7 = .ok (.aload_n 0, 1) := by decide +kernel
theorem dX4_addLast_8 : decode cX4_addLast 8 = .ok (.getfield 15, 3) := by decide +kernel
theorem dX4_addLast_11 : decode cX4_addLast 11 = .ok (.aload_n 0, 1) := by decide +kernel
theorem dX4_addLast_12 : decode cX4_addLast 12 = .ok (.getfield 9, 3) := by decide +kernel
theorem dX4_addLast_15 : decode cX4_addLast 15 = .ok (.arraylength, 1) := by decide +kernel
theorem dX4_addLast_16 : decode cX4_addLast 16 = .ok (.if_icmp .ge 23, 3) := by decide +kernel
theorem dX4_addLast_19 : decode cX4_addLast 19 = .ok (.aload_n 0, 1) := by decide +kernel
theorem dX4_addLast_20 : decode cX4_addLast 20 = .ok (.getfield 9, 3) := by decide +kernel
theorem dX4_addLast_23 : decode cX4_addLast 23 = .ok (.aload_n 0, 1) := by decide +kernel
theorem dX4_addLast_24 : decode cX4_addLast 24 = .ok (.getfield 15, 3) := by decide +kernel
theorem dX4_addLast_27 : decode cX4_addLast 27 = .ok (.iload_n 1, 1) := by decide +kernel
theorem dX4_addLast_28 : decode cX4_addLast 28 = .ok (.iastore, 1) := by decide +kernel
theorem dX4_addLast_29 : decode cX4_addLast 29 = .ok (.aload_n 0, 1) := by decide +kernel
theorem dX4_addLast_30 : decode cX4_addLast 30 = .ok (.dup, 1) := by decide +kernel
theorem dX4_addLast_31 : decode cX4_addLast 31 = .ok (.getfield 15, 3) := by decide +kernel
theorem dX4_addLast_34 : decode cX4_addLast 34 = .ok (.iconst 1, 1) := by decide +kernel
theorem dX4_addLast_35 : decode cX4_addLast 35 = .ok (.iadd, 1) := by decide +kernel
theorem dX4_addLast_36 : decode cX4_addLast 36 = .ok (.putfield 15, 3) := by decide +kernel
theorem dX4_addLast_39 : decode cX4_addLast 39 = .ok (.return_, 1) := by decide +kernel
theorem dX4_removeAt_0 : decode cX4_removeAt 0 = .ok (.iload_n 1, 1) := by decide +kernel
theorem dX4_removeAt_1 : decode cX4_removeAt 1 = .ok (.ifCond .lt 20, 3) := by decide +kernel
theorem dX4_removeAt_4 : decode cX4_removeAt 4 = .ok (.iload_n 1, 1) := by decide +kernel
theorem dX4_removeAt_5 : decode cX4_removeAt 5 = .ok (.aload_n 0, 1) := by decide +kernel
theorem dX4_removeAt_6 : decode cX4_removeAt 6 = .ok (.getfield 15, 3) := by decide +kernel
theorem dX4_removeAt_9 : decode cX4_removeAt 9 = .ok (.if_icmp .ge 12, 3) := by decide +kernel
theorem dX4_removeAt_12 : decode cX4_removeAt 12 = .ok (.iload_n 1, 1) := by decide +kernel
theorem dX4_removeAt_13 : decode cX4_removeAt 13 = .ok (.aload_n 0, 1) := by decide +kernel
theorem dX4_removeAt_14 : decode cX4_removeAt 14 = .ok (.getfield 9, 3) := by decide +kernel
theorem dX4_removeAt_17 : decode cX4_removeAt 17 = .ok (.arraylength, 1) := by decide +kernel
theorem dX4_removeAt_18 : decode cX4_removeAt 18 = .ok (.if_icmp .lt 5, 3) := by decide +kernel
theorem dX4_removeAt_21 : decode cX4_removeAt 21 = .ok (.iconst (-1), 1) := by decide +kernel
theorem dX4_removeAt_22 : decode cX4_removeAt 22 = .ok (.ireturn, 1) := by decide +kernel
theorem dX4_removeAt_23 : decode cX4_removeAt 23 = .ok (.aload_n 0, 1) := by decide +kernel
theorem dX4_removeAt_24 : decode cX4_removeAt 24 = .ok (.getfield 9, 3) := by decide +kernel
theorem dX4_removeAt_27 : decode cX4_removeAt 27 = .ok (.iload_n 1, 1) := by decide +kernel
theorem dX4_removeAt_28 : decode cX4_removeAt 28 = .ok (.iaload, 1) := by decide +kernel
theorem dX4_removeAt_29 : decode cX4_removeAt 29 = .ok (.istore_n 2, 1) := by decide +kernel
theorem dX4_removeAt_30 : decode cX4_removeAt 30 = .ok (.iload_n 1, 1) := by decide +kernel
theorem dX4_removeAt_31 : decode cX4_removeAt 31 = .ok (.istore_n 3, 1) := by decide +kernel
theorem dX4_removeAt_32 : decode cX4_removeAt 32 = .ok (.iload_n 3, 1) := by decide +kernel
theorem dX4_removeAt_33 : decode cX4_removeAt 33 = .ok (.iconst 1, 1) := by decide +kernel
theorem dX4_removeAt_34 : decode cX4_removeAt 34 = .ok (.iadd, 1) := by decide +kernel
theorem dX4_removeAt_35 : decode cX4_removeAt 35 = .ok (.aload_n 0, 1) := by decide +kernel
theorem dX4_removeAt_36 : decode cX4_removeAt 36 = .ok (.getfield 15, 3) := by decide +kernel
theorem dX4_removeAt_39 : decode cX4_removeAt 39 = .ok (.if_icmp .ge 34, 3) := by decide +kernel
theorem dX4_removeAt_42 : decode cX4_removeAt 42 = .ok (.iload_n 3, 1) := by decide +kernel
theorem dX4_removeAt_43 : decode cX4_removeAt 43 = .ok (.iconst 1, 1) := by decide +kernel
theorem dX4_removeAt_44 : decode cX4_removeAt 44 = .ok (.iadd, 1) := by decide +kernel
theorem dX4_removeAt_45 : decode cX4_removeAt 45 = .ok (.aload_n 0, 1) := by decide +kernel
theorem dX4_removeAt_46 : decode cX4_removeAt 46 = .ok (.getfield 9, 3) := by decide +kernel
theorem dX4_removeAt_49 : decode cX4_removeAt 49 = .ok (.arraylength, 1) := by decide +kernel
theorem dX4_removeAt_50 : decode cX4_removeAt 50 = .ok (.if_icmp .ge 23, 3) := by decide +kernel
theorem dX4_removeAt_53 : decode cX4_removeAt 53 = .ok (.aload_n 0, 1) := by decide +kernel
theorem dX4_removeAt_54 : decode cX4_removeAt 54 = .ok (.getfield 9, 3) := by decide +kernel
theorem dX4_removeAt_57 : decode cX4_removeAt 57 = .ok (.iload_n 3, 1) := by decide +kernel
theorem dX4_removeAt_58 : decode cX4_removeAt 58 = .ok (.aload_n 0, 1) := by decide +kernel
theorem dX4_removeAt_59 : decode cX4_removeAt 59 = .ok (.getfield 9, 3) := by decide +kernel
theorem dX4_removeAt_62 : decode cX4_removeAt 62 = .ok (.iload_n 3, 1) := by decide +kernel
theorem dX4_removeAt_63 : decode cX4_removeAt 63 = .ok (.iconst 1, 1) := by decide +kernel
theorem dX4_removeAt_64 : decode cX4_removeAt 64 = .ok (.iadd, 1) := by decide +kernel
theorem dX4_removeAt_65 : decode cX4_removeAt 65 = .ok (.iaload, 1) := by decide +kernel
theorem dX4_removeAt_66 : decode cX4_removeAt 66 = .ok (.iastore, 1) := by decide +kernel
theorem dX4_removeAt_67 : decode cX4_removeAt 67 = .ok (.iinc 3 1, 3) := by decide +kernel
theorem dX4_removeAt_70 : decode cX4_removeAt 70 = .ok (.goto (-38), 3) := by decide +kernel
theorem dX4_removeAt_73 : decode cX4_removeAt 73 = .ok (.aload_n 0, 1) := by decide +kernel
theorem dX4_removeAt_74 : decode cX4_removeAt 74 = .ok (.dup, 1) := by decide +kernel
theorem dX4_removeAt_75 : decode cX4_removeAt 75 = .ok (.getfield 15, 3) := by decide +kernel
theorem dX4_removeAt_78 : decode cX4_removeAt 78 = .ok (.iconst 1, 1) := by decide +kernel
theorem dX4_removeAt_79 : decode cX4_removeAt 79 = .ok (.isub, 1) := by decide +kernel
theorem dX4_removeAt_80 : decode cX4_removeAt 80 = .ok (.putfield 15, 3) := by decide +kernel
theorem dX4_removeAt_83 : decode cX4_removeAt 83 = .ok (.iload_n 2, 1) := by decide +kernel
theorem dX4_removeAt_84 : decode cX4_removeAt 84 = .ok (.ireturn, 1) := by decide +kernel
theorem dX4_bringToFront_0 : decode cX4_bringToFront 0 = .ok (.iload_n 1, 1) := by decide +kernel
theorem dX4_bringToFront_1 : decode cX4_bringToFront 1 = .ok (.ifCond .lt 20, 3) := by decide +kernel
theorem dX4_bringToFront_4 : decode cX4_bringToFront 4 = .ok (.iload_n 1, 1) := by decide +kernel
theorem dX4_bringToFront_5 : decode cX4_bringToFront 5 = .ok (.aload_n 0, 1) := by decide +kernel
theorem dX4_bringToFront_6 : decode cX4_bringToFront 6 = .ok (.getfield 15, 3) := by decide +kernel
theorem dX4_bringToFront_9 : decode cX4_bringToFront 9 = .ok (.if_icmp .ge 12, 3) := by decide +kernel
theorem dX4_bringToFront_12 : decode cX4_bringToFront 12 = .ok (.iload_n 1, 1) := by decide +kernel
theorem dX4_bringToFront_13 : decode cX4_bringToFront 13 = .ok (.aload_n 0, 1) := by decide +kernel
theorem dX4_bringToFront_14 : decode cX4_bringToFront 14 = .ok (.getfield 9, 3) := by decide +kernel
theorem dX4_bringToFront_17 : decode cX4_bringToFront 17 = .ok (.arraylength, 1) := by decide +kernel
theorem dX4_bringToFront_18 : decode cX4_bringToFront 18 = .ok (.if_icmp .lt 4, 3) := by decide +kernel
theorem dX4_bringToFront_21 : decode cX4_bringToFront 21 = .ok (.return_, 1) := by decide +kernel
theorem dX4_bringToFront_22 : decode cX4_bringToFront 22 = .ok (.aload_n 0, 1) := by decide +kernel
theorem dX4_bringToFront_23 : decode cX4_bringToFront 23 = .ok (.getfield 9, 3) := by decide +kernel
theorem dX4_bringToFront_26 : decode cX4_bringToFront 26 = .ok (.iload_n 1, 1) := by decide +kernel
theorem dX4_bringToFront_27 : decode cX4_bringToFront 27 = .ok (.iaload, 1) := by decide +kernel
theorem dX4_bringToFront_28 : decode cX4_bringToFront 28 = .ok (.istore_n 2, 1) := by decide +kernel
theorem dX4_bringToFront_29 : decode cX4_bringToFront 29 = .ok (.iload_n 1, 1) := by decide +kernel
theorem dX4_bringToFront_30 : decode cX4_bringToFront 30 = .ok (.istore_n 3, 1) := by decide +kernel
theorem dX4_bringToFront_31 : decode cX4_bringToFront 31 = .ok (.iload_n 3, 1) := by decide +kernel
theorem dX4_bringToFront_32 : decode cX4_bringToFront 32 = .ok (.ifCond .le 23, 3) := by decide +kernel
theorem dX4_bringToFront_35 : decode cX4_bringToFront 35 = .ok (.aload_n 0, 1) := by decide +kernel
theorem dX4_bringToFront_36 : decode cX4_bringToFront 36 = .ok (.getfield 9, 3) := by decide +kernel
theorem dX4_bringToFront_39 : decode cX4_bringToFront 39 = .ok (.iload_n 3, 1) := by decide +kernel
theorem dX4_bringToFront_40 : decode cX4_bringToFront 40 = .ok (.aload_n 0, 1) := by decide +kernel
theorem dX4_bringToFront_41 : decode cX4_bringToFront 41 = .ok (.getfield 9, 3) := by decide +kernel
theorem dX4_bringToFront_44 : decode cX4_bringToFront 44 = .ok (.iload_n 3, 1) := by decide +kernel
theorem dX4_bringToFront_45 : decode cX4_bringToFront 45 = .ok (.iconst 1, 1) := by decide +kernel
theorem dX4_bringToFront_46 : decode cX4_bringToFront 46 = .ok (.isub, 1) := by decide +kernel
theorem dX4_bringToFront_47 : decode cX4_bringToFront 47 = .ok (.iaload, 1) := by decide +kernel
theorem dX4_bringToFront_48 : decode cX4_bringToFront 48 = .ok (.iastore, 1) := by decide +kernel
theorem dX4_bringToFront_49 : decode cX4_bringToFront 49 = .ok (.iinc 3 (-1), 3) := by decide +kernel
theorem dX4_bringToFront_52 : decode cX4_bringToFront 52 = .ok (.goto (-21), 3) := by decide +kernel
theorem dX4_bringToFront_55 : decode cX4_bringToFront 55 = .ok (.aload_n 0, 1) := by decide +kernel
theorem dX4_bringToFront_56 : decode cX4_bringToFront 56 = .ok (.getfield 9, 3) := by decide +kernel
theorem dX4_bringToFront_59 : decode cX4_bringToFront 59 = .ok (.iconst 0, 1) := by decide +kernel
theorem dX4_bringToFront_60 : decode cX4_bringToFront 60 = .ok (.iload_n 2, 1) := by decide +kernel
theorem dX4_bringToFront_61 : decode cX4_bringToFront 61 = .ok (.iastore, 1) := by decide +kernel
theorem dX4_bringToFront_62 : decode cX4_bringToFront 62 = .ok (.return_, 1) := by decide +kernel
theorem dX5_init_0 : decode cX5_init 0 = .ok (.aload_n 0, 1) := by decide +kernel
theorem dX5_init_1 : decode cX5_init 1 = .ok (.invokespecial 3, 3) := by decide +kernel
theorem dX5_init_4 : decode cX5_init 4 = .ok (.aload_n 0, 1) := by decide +kernel
theorem dX5_init_5 : decode cX5_init 5 = .ok (.bipush 6, 2) := by decide +kernel
theorem dX5_init_7 : decode cX5_init 7 = .ok (.anewarray 9, 3) := by decide +kernel
theorem dX5_init_10 : decode cX5_init 10 = .ok (.putfield 11, 3) := by decide +kernel
theorem dX5_init_13 : decode cX5_init 13 = .ok (.aload_n 0, 1) := by decide +kernel
theorem dX5_init_14 : decode cX5_init 14 = .ok (.bipush 12, 2) := by decide +kernel
theorem dX5_init_16 : decode cX5_init 16 = .ok (.anewarray 17, 3) := by decide +kernel
theorem dX5_init_19 : decode cX5_init 19 = .ok (.putfield 19, 3) := by decide +kernel
theorem dX5_init_22 : decode cX5_init 22 = .ok (.aload_n 0, 1) := by decide +kernel
theorem dX5_init_23 : decode cX5_init 23 = .ok (.iconst 3, 1) := by decide +kernel
theorem dX5_init_24 : decode cX5_init 24 = .ok (.putfield 23, 3) := by decide +kernel
theorem dX5_init_27 : decode cX5_init 27 = .ok (.aload_n 0, 1) := by decide +kernel
theorem dX5_init_28 : decode cX5_init 28 = .ok (.iconst 2, 1) := by decide +kernel
theorem dX5_init_29 : decode cX5_init 29 = .ok (.putfield 27, 3) := by decide +kernel
theorem dX5_init_32 : decode cX5_init 32 = .ok (.iconst 0, 1) := by decide +kernel
theorem dX5_init_33 : decode cX5_init 33 = .ok (.istore_n 1, 1) := by decide +kernel
theorem dX5_init_34 : decode cX5_init 34 = .ok (.iload_n 1, 1) := by decide +kernel
theorem dX5_init_35 : decode cX5_init 35 = .ok (.aload_n 0, 1) := by decide +kernel
theorem dX5_init_36 : decode cX5_init 36 = .ok (.getfield 11, 3) := by decide +kernel
theorem dX5_init_39 : decode cX5_init 39 = .ok (.arraylength, 1) := by decide +kernel
theorem dX5_init_40 : decode cX5_init 40 = .ok (.if_icmp .ge 22, 3) := by decide +kernel
theorem dX5_init_43 : decode cX5_init 43 = .ok (.aload_n 0, 1) := by decide +kernel
theorem dX5_init_44 : decode cX5_init 44 = .ok (.getfield 11, 3) := by decide +kernel
theorem dX5_init_47 : decode cX5_init 47 = .ok (.iload_n 1, 1) := by decide +kernel
theorem dX5_init_48 : decode cX5_init 48 = .ok (.new 9, 3) := by decide +kernel
theorem dX5_init_51 : decode cX5_init 51 = .ok (.dup, 1) := by decide +kernel
theorem dX5_init_52 : decode cX5_init 52 = .ok (.invokespecial 30, 3) := by decide +kernel
theorem dX5_init_55 : decode cX5_init 55 = .ok (.aastore, 1) := by decide +kernel
theorem dX5_init_56 : decode cX5_init 56 = .ok (.iinc 1 1, 3) := by decide +kernel
theorem dX5_init_59 : decode cX5_init 59 = .ok (.goto (-25), 3) := by decide +kernel
theorem dX5_init_62 : decode cX5_init 62 = .ok (.iconst 0, 1) := by decide +kernel
theorem dX5_init_63 : decode cX5_init 63 = .ok (.istore_n 1, 1) := by decide +kernel
theorem dX5_init_64 : decode cX5_init 64 = .ok (.iload_n 1, 1) := by decide +kernel
theorem dX5_init_65 : decode cX5_init 65 = .ok (.aload_n 0, 1) := by decide +kernel
theorem dX5_init_66 : decode cX5_init 66 = .ok (.getfield 19, 3) := by decide +kernel
theorem dX5_init_69 : decode cX5_init 69 = .ok (.arraylength, 1) := by decide +kernel
theorem dX5_init_70 : decode cX5_init 70 = .ok (.if_icmp .ge 22, 3) := by decide +kernel
theorem dX5_init_73 : decode cX5_init 73 = .ok (.aload_n 0, 1) := by decide +kernel
theorem dX5_init_74 : decode cX5_init 74 = .ok (.getfield 19, 3) := by decide +kernel
theorem dX5_init_77 : decode cX5_init 77 = .ok (.iload_n 1, 1) := by decide +kernel
theorem dX5_init_78 : decode cX5_init 78 = .ok (.new 17, 3) := by decide +kernel
theorem dX5_init_81 : decode cX5_init 81 = .ok (.dup, 1) := by decide +kernel
theorem dX5_init_82 : decode cX5_init 82 = .ok (.invokespecial 31, 3) := by decide +kernel
theorem dX5_init_85 : decode cX5_init 85 = .ok (.aastore, 1) := by decide +kernel
theorem dX5_init_86 : decode cX5_init 86 = .ok (.iinc 1 1, 3) := by decide +kernel
theorem dX5_init_89 : decode cX5_init 89 = .ok (.goto (-25), 3) := by decide +kernel
theorem dX5_init_92 : decode cX5_init 92 = .ok (.return_, 1) := by decide +kernel
theorem dX5_copyFrom_0 : decode cX5_copyFrom 0 = .ok (.iconst 0, 1) := by decide +kernel
theorem dX5_copyFrom_1 : decode cX5_copyFrom 1 = .ok (.istore_n 2, 1) := by decide +kernel
theorem dX5_copyFrom_2 : decode cX5_copyFrom 2 = .ok (.iload_n 2, 1) := by decide +kernel
theorem dX5_copyFrom_3 : decode cX5_copyFrom 3 = .ok (.aload_n 0, 1) := by decide +kernel
theorem dX5_copyFrom_4 : decode cX5_copyFrom 4 = .ok (.getfield 11, 3) := by decide +kernel
theorem dX5_copyFrom_7 : decode cX5_copyFrom 7 = .ok (.arraylength, 1) := by decide +kernel
theorem dX5_copyFrom_8 : decode cX5_copyFrom 8 = .ok (.if_icmp .ge 33, 3) := by decide +kernel
theorem dX5_copyFrom_11 : decode cX5_copyFrom 11 = .ok (.iload_n 2, 1) := by decide +kernel
theorem dX5_copyFrom_12 : decode cX5_copyFrom 12 = .ok (.aload_n 1, 1) := by decide +kernel
theorem dX5_copyFrom_13 : decode cX5_copyFrom 13 = .ok (.getfield 11, 3) := by decide +kernel
theorem dX5_copyFrom_16 : decode cX5_copyFrom 16 = .ok (.arraylength, 1) := by decide +kernel
theorem dX5_copyFrom_17 : decode cX5_copyFrom 17 = .ok (.if_icmp .ge 24, 3) := by decide +kernel
theorem dX5_copyFrom_20 : decode cX5_copyFrom 20 = .ok (.aload_n 0, 1) := by decide +kernel
theorem dX5_copyFrom_21 : decode cX5_copyFrom 21 = .ok (.getfield 11, 3) := by decide +kernel
theorem dX5_copyFrom_24 : decode cX5_copyFrom 24 = .ok (.iload_n 2, 1) := by decide +kernel
theorem dX5_copyFrom_25 : decode cX5_copyFrom 25 = .ok (.aaload, 1) := by decide +kernel
theorem dX5_copyFrom_26 : decode cX5_copyFrom 26 = .ok (.aload_n 1, 1) := by decide +kernel
theorem dX5_copyFrom_27 : decode cX5_copyFrom 27 = .ok (.getfield 11, 3) := by decide +kernel
theorem dX5_copyFrom_30 : decode cX5_copyFrom 30 = .ok (.iload_n 2, 1) := by decide +kernel
theorem dX5_copyFrom_31 : decode cX5_copyFrom 31 = .ok (.aaload, 1) := by decide +kernel
theorem dX5_copyFrom_32 : decode cX5_copyFrom 32 = .ok (.invokevirtual 32, 3) := by decide +kernel
theorem dX5_copyFrom_35 : decode cX5_copyFrom 35 = .ok (.iinc 2 1, 3) := by decide +kernel
theorem dX5_copyFrom_38 : decode cX5_copyFrom 38 = .ok (.goto (-36), 3) := by decide +kernel
theorem dX5_copyFrom_41 : decode cX5_copyFrom 41 = .ok (.iconst 0, 1) := by decide +kernel
theorem dX5_copyFrom_42 : decode cX5_copyFrom 42 = .ok (.istore_n 2, 1) := by decide +kernel
theorem dX5_copyFrom_43 : decode cX5_copyFrom 43 = .ok (.iload_n 2, 1) := by decide +kernel
theorem dX5_copyFrom_44 : decode cX5_copyFrom 44 = .ok (.aload_n 0, 1) := by decide +kernel
theorem dX5_copyFrom_45 : decode cX5_copyFrom 45 = .ok (.getfield 19, 3) := by decide +kernel
theorem dX5_copyFrom_48 : decode cX5_copyFrom 48 = .ok (.arraylength, 1) := by decide +kernel
theorem dX5_copyFrom_49 : decode cX5_copyFrom 49 = .ok (.if_icmp .ge 33, 3) := by decide +kernel
theorem dX5_copyFrom_52 : decode cX5_copyFrom 52 = .ok (.iload_n 2, 1) := by decide +kernel
theorem dX5_copyFrom_53 : decode cX5_copyFrom 53 = .ok (.aload_n 1, 1) := by decide +kernel
theorem dX5_copyFrom_54 : decode cX5_copyFrom 54 = .ok (.getfield 19, 3) := by decide +kernel
theorem dX5_copyFrom_57 : decode cX5_copyFrom 57 = .ok (.arraylength, 1) := by decide +kernel
theorem dX5_copyFrom_58 : decode cX5_copyFrom 58 = .ok (.if_icmp .ge 24, 3) := by decide +kernel
theorem dX5_copyFrom_61 : decode cX5_copyFrom 61 = .ok (.aload_n 0, 1) := by decide +kernel
theorem dX5_copyFrom_62 : decode cX5_copyFrom 62 = .ok (.getfield 19, 3) := by decide +kernel
theorem dX5_copyFrom_65 : decode cX5_copyFrom 65 = .ok (.iload_n 2, 1) := by decide +kernel
theorem dX5_copyFrom_66 : decode cX5_copyFrom 66 = .ok (.aaload, 1) := by decide +kernel
theorem dX5_copyFrom_67 : decode cX5_copyFrom 67 = .ok (.aload_n 1, 1) := by decide +kernel
theorem dX5_copyFrom_68 : decode cX5_copyFrom 68 = .ok (.getfield 19, 3) := by decide +kernel
theorem dX5_copyFrom_71 : decode cX5_copyFrom 71 = .ok (.iload_n 2, 1) := by decide +kernel
theorem dX5_copyFrom_72 : decode cX5_copyFrom 72 = .ok (.aaload, 1) := by decide +kernel
theorem dX5_copyFrom_73 : decode cX5_copyFrom 73 = .ok (.invokevirtual 36, 3) := by decide +kernel
theorem dX5_copyFrom_76 : decode cX5_copyFrom 76 = .ok (.iinc 2 1, 3) := by decide +kernel
theorem dX5_copyFrom_79 : decode cX5_copyFrom 79 = .ok (.goto (-36), 3) := by decide +kernel
theorem dX5_copyFrom_82 : decode cX5_copyFrom 82 = .ok (.aload_n 0, 1) := by decide +kernel
theorem dX5_copyFrom_83 : decode cX5_copyFrom 83 = .ok (.aload_n 1, 1) := by decide +kernel
theorem dX5_copyFrom_84 : decode cX5_copyFrom 84 = .ok (.getfield 39, 3) := by decide +kernel
theorem dX5_copyFrom_87 : decode cX5_copyFrom 87 = .ok (.putfield 39, 3) := by decide +kernel
theorem dX5_copyFrom_90 : decode cX5_copyFrom 90 = .ok (.aload_n 0, 1) := by decide +kernel
theorem dX5_copyFrom_91 : decode cX5_copyFrom 91 = .ok (.aload_n 1, 1) := by decide +kernel
theorem dX5_copyFrom_92 : decode cX5_copyFrom 92 = .ok (.getfield 42, 3) := by decide +kernel
theorem dX5_copyFrom_95 : decode cX5_copyFrom 95 = .ok (.putfield 42, 3) := by decide +kernel
theorem dX5_copyFrom_98 : decode cX5_copyFrom 98 = .ok (.aload_n 0, 1) := by decide +kernel
theorem dX5_copyFrom_99 : decode cX5_copyFrom 99 = .ok (.aload_n 1, 1) := by decide +kernel
theorem dX5_copyFrom_100 : decode cX5_copyFrom 100 = .ok (.getfield 23, 3) := by decide +kernel
theorem dX5_copyFrom_103 : decode cX5_copyFrom 103 = .ok (.putfield 23, 3) := by decide +kernel
theorem dX5_copyFrom_106 : decode cX5_copyFrom 106 = .ok (.aload_n 0, 1) := by decide +kernel
theorem dX5_copyFrom_107 : decode cX5_copyFrom 107 = .ok (.aload_n 1, 1) := by decide +kernel
theorem dX5_copyFrom_108 : decode cX5_copyFrom 108 = .ok (.getfield 27, 3) := by decide +kernel
theorem dX5_copyFrom_111 : decode cX5_copyFrom 111 = .ok (.putfield 27, 3) := by decide +kernel
theorem dX5_copyFrom_114 : decode cX5_copyFrom 114 = .ok (.aload_n 0, 1) := by decide +kernel
theorem dX5_copyFrom_115 : decode cX5_copyFrom 115 = .ok (.aload_n 1, 1) := by decide +kernel
theorem dX5_copyFrom_116 : decode cX5_copyFrom 116 = .ok (.getfield 45, 3) := by decide +kernel
theorem dX5_copyFrom_119 : decode cX5_copyFrom 119 = .ok (.putfield 45, 3) := by decide +kernel
theorem dX5_copyFrom_122 : decode cX5_copyFrom 122 = .ok (.aload_n 0, 1) := by decide +kernel
theorem dX5_copyFrom_123 : decode cX5_copyFrom 123 = .ok (.aload_n 1, 1) := by decide +kernel
theorem dX5_copyFrom_124 : decode cX5_copyFrom 124 = .ok (.getfield 48, 3) := by decide +kernel
theorem dX5_copyFrom_127 : decode cX5_copyFrom 127 = .ok (.putfield 48, 3) := by decide +kernel
theorem dX5_copyFrom_130 : decode cX5_copyFrom 130 = .ok (.aload_n 0, 1) := by decide +kernel
theorem dX5_copyFrom_131 : decode cX5_copyFrom 131 = .ok (.aload_n 1, 1) := by decide +kernel
theorem dX5_copyFrom_132 : decode cX5_copyFrom 132 = .ok (.getfield 51, 3) := by decide +kernel
theorem dX5_copyFrom_135 : decode cX5_copyFrom 135 = .ok (.putfield 51, 3) := by decide +kernel
theorem dX5_copyFrom_138 : decode cX5_copyFrom 138 = .ok (.aload_n 0, 1) := by decide +kernel
theorem dX5_copyFrom_139 : decode cX5_copyFrom 139 = .ok (.aload_n 1, 1) := by decide +kernel
theorem dX5_copyFrom_140 : decode cX5_copyFrom 140 = .ok (.getfield 54, 3) := by decide +kernel
theorem dX5_copyFrom_143 : decode cX5_copyFrom 143 = .ok (.putfield 54, 3) := by decide +kernel
theorem dX5_copyFrom_146 : decode cX5_copyFrom 146 = .ok (.aload_n 0, 1) := by decide +kernel
theorem dX5_copyFrom_147 : decode cX5_copyFrom 147 = .ok (.aload_n 1, 1) := by decide +kernel
theorem dX5_copyFrom_148 : decode cX5_copyFrom 148 = .ok (.getfield 57, 3) := by decide +kernel
theorem dX5_copyFrom_151 : decode cX5_copyFrom 151 = .ok (.putfield 57, 3) := by decide +kernel
theorem dX5_copyFrom_154 : decode cX5_copyFrom 154 = .ok (.aload_n 0, 1) := by decide +kernel
theorem dX5_copyFrom_155 : decode cX5_copyFrom 155 = .ok (.aload_n 1, 1) := by decide +kernel
theorem dX5_copyFrom_156 : decode cX5_copyFrom 156 = .ok (.getfield 60, 3) := by decide +kernel
theorem dX5_copyFrom_159 : decode cX5_copyFrom 159 = .ok (.putfield 60, 3) := by decide +kernel
theorem dX5_copyFrom_162 : decode cX5_copyFrom 162 = .ok (.aload_n 0, 1) := by decide +kernel
theorem dX5_copyFrom_163 : decode cX5_copyFrom 163 = .ok (.aload_n 1, 1) := by decide +kernel
theorem dX5_copyFrom_164 : decode cX5_copyFrom 164 = .ok (.getfield 63, 3) := by decide +kernel
theorem dX5_copyFrom_167 : decode cX5_copyFrom 167 = .ok (.putfield 63, 3) := by decide +kernel
theorem dX5_copyFrom_170 : decode cX5_copyFrom 170 = .ok (.aload_n 0, 1) := by decide +kernel
theorem dX5_copyFrom_171 : decode cX5_copyFrom 171 = .ok (.aload_n 1, 1) := by decide +kernel
theorem dX5_copyFrom_172 : decode cX5_copyFrom 172 = .ok (.getfield 66, 3) := by decide +kernel
theorem dX5_copyFrom_175 : decode cX5_copyFrom 175 = .ok (.putfield 66, 3) := by decide +kernel
theorem dX5_copyFrom_178 : decode cX5_copyFrom 178 = .ok (.aload_n 0, 1) := by decide +kernel
theorem dX5_copyFrom_179 : decode cX5_copyFrom 179 = .ok (.aload_n 1, 1) := by decide +kernel
theorem dX5_copyFrom_180 : decode cX5_copyFrom 180 = .ok (.getfield 69, 3) := by decide +kernel
theorem dX5_copyFrom_183 : decode cX5_copyFrom 183 = .ok (.putfield 69, 3) := by decide +kernel
theorem dX5_copyFrom_186 : decode cX5_copyFrom 186 = .ok (.aload_n 0, 1) := by decide +kernel
theorem dX5_copyFrom_187 : decode cX5_copyFrom 187 = .ok (.aload_n 1, 1) := by decide +kernel
theorem dX5_copyFrom_188 : decode cX5_copyFrom 188 = .ok (.getfield 72, 3) := by decide +kernel
theorem dX5_copyFrom_191 : decode cX5_copyFrom 191 = .ok (.putfield 72, 3) := by decide +kernel
theorem dX5_copyFrom_194 : decode cX5_copyFrom 194 = .ok (.return_, 1) := by decide +kernel
theorem dX5_hasGate_0 : decode cX5_hasGate 0 = .ok (.iload_n 1, 1) := by decide +kernel
theorem dX5_hasGate_1 : decode cX5_hasGate 1 = .ok (.ifCond .lt 24, 3) := by decide +kernel
theorem dX5_hasGate_4 : decode cX5_hasGate 4 = .ok (.iload_n 1, 1) := by decide +kernel
theorem dX5_hasGate_5 : decode cX5_hasGate 5 = .ok (.aload_n 0, 1) := by decide +kernel
theorem dX5_hasGate_6 : decode cX5_hasGate 6 = .ok (.getfield 39, 3) := by decide +kernel
theorem dX5_hasGate_9 : decode cX5_hasGate 9 = .ok (.if_icmp .ge 16, 3) := by decide +kernel
theorem dX5_hasGate_12 : decode cX5_hasGate 12 = .ok (.iload_n 1, 1) := by decide +kernel
theorem dX5_hasGate_13 : decode cX5_hasGate 13 = .ok (.aload_n 0, 1) := by decide +kernel
theorem dX5_hasGate_14 : decode cX5_hasGate 14 = .ok (.getfield 11, 3) := by decide +kernel
theorem dX5_hasGate_17 : decode cX5_hasGate 17 = .ok (.arraylength, 1) := by decide +kernel
theorem dX5_hasGate_18 : decode cX5_hasGate 18 = .ok (.if_icmp .ge 7, 3) := by decide +kernel
theorem dX5_hasGate_21 : decode cX5_hasGate 21 = .ok (.iconst 1, 1) := by decide +kernel
theorem dX5_hasGate_22 : decode cX5_hasGate 22 = .ok (.goto 4, 3) := by decide +kernel
theorem dX5_hasGate_25 : decode cX5_hasGate 25 = .ok (.iconst 0, 1) := by decide +kernel
theorem dX5_hasGate_26 : decode cX5_hasGate 26 = .ok (.ireturn, 1) := by decide +kernel
theorem dX5_hasCard_0 : decode cX5_hasCard 0 = .ok (.iload_n 1, 1) := by decide +kernel
theorem dX5_hasCard_1 : decode cX5_hasCard 1 = .ok (.ifCond .lt 24, 3) := by decide +kernel
theorem dX5_hasCard_4 : decode cX5_hasCard 4 = .ok (.iload_n 1, 1) := by decide +kernel
theorem dX5_hasCard_5 : decode cX5_hasCard 5 = .ok (.aload_n 0, 1) := by decide +kernel
theorem dX5_hasCard_6 : decode cX5_hasCard 6 = .ok (.getfield 42, 3) := by decide +kernel
theorem dX5_hasCard_9 : decode cX5_hasCard 9 = .ok (.if_icmp .ge 16, 3) := by decide +kernel
theorem dX5_hasCard_12 : decode cX5_hasCard 12 = .ok (.iload_n 1, 1) := by decide +kernel
theorem dX5_hasCard_13 : decode cX5_hasCard 13 = .ok (.aload_n 0, 1) := by decide +kernel
theorem dX5_hasCard_14 : decode cX5_hasCard 14 = .ok (.getfield 19, 3) := by decide +kernel
theorem dX5_hasCard_17 : decode cX5_hasCard 17 = .ok (.arraylength, 1) := by decide +kernel
theorem dX5_hasCard_18 : decode cX5_hasCard 18 = .ok (.if_icmp .ge 7, 3) := by decide +kernel
theorem dX5_hasCard_21 : decode cX5_hasCard 21 = .ok (.iconst 1, 1) := by decide +kernel
theorem dX5_hasCard_22 : decode cX5_hasCard 22 = .ok (.goto 4, 3) := by decide +kernel
theorem dX5_hasCard_25 : decode cX5_hasCard 25 = .ok (.iconst 0, 1) := by decide +kernel
theorem dX5_hasCard_26 : decode cX5_hasCard 26 = .ok (.ireturn, 1) := by decide +kernel
theorem dX5_canTakeGate_0 : decode cX5_canTakeGate 0 = .ok (.aload_n 0, 1) := by decide +kernel
theorem dX5_canTakeGate_1 : decode cX5_canTakeGate 1 = .ok (.getfield 39, 3) := by decide +kernel
theorem dX5_canTakeGate_4 : decode cX5_canTakeGate 4 = .ok (.ifCond .lt 19, 3) := by decide +kernel
theorem dX5_canTakeGate_7 : decode cX5_canTakeGate 7 = .ok (.aload_n 0, 1) := by decide +kernel
theorem dX5_canTakeGate_8 : decode cX5_canTakeGate 8 = .ok (.getfield 39, 3) := by decide +kernel
theorem dX5_canTakeGate_11 : decode cX5_canTakeGate 11 = .ok (.aload_n 0, 1) := by decide +kernel
theorem dX5_canTakeGate_12 : decode cX5_canTakeGate 12 = .ok (.getfield 11, 3) := by decide +kernel
theorem dX5_canTakeGate_15 : decode cX5_canTakeGate 15 = .ok (.arraylength, 1) := by decide +kernel
theorem dX5_canTakeGate_16 : decode cX5_canTakeGate 16 = .ok (.if_icmp .ge 7, 3) := by decide +kernel
theorem dX5_canTakeGate_19 : decode cX5_canTakeGate 19 = .ok (.iconst 1, 1) := by decide +kernel
theorem dX5_canTakeGate_20 : decode cX5_canTakeGate 20 = .ok (.goto 4, 3) := by decide +kernel
theorem dX5_canTakeGate_23 : decode cX5_canTakeGate 23 = .ok (.iconst 0, 1) := by decide +kernel
theorem dX5_canTakeGate_24 : decode cX5_canTakeGate 24 = .ok (.ireturn, 1) := by decide +kernel
theorem dX5_canTakeCard_0 : decode cX5_canTakeCard 0 = .ok (.aload_n 0, 1) := by decide +kernel
theorem dX5_canTakeCard_1 : decode cX5_canTakeCard 1 = .ok (.getfield 42, 3) := by decide +kernel
theorem dX5_canTakeCard_4 : decode cX5_canTakeCard 4 = .ok (.ifCond .lt 19, 3) := by decide +kernel
theorem dX5_canTakeCard_7 : decode cX5_canTakeCard 7 = .ok (.aload_n 0, 1) := by decide +kernel
theorem dX5_canTakeCard_8 : decode cX5_canTakeCard 8 = .ok (.getfield 42, 3) := by decide +kernel
theorem dX5_canTakeCard_11 : decode cX5_canTakeCard 11 = .ok (.aload_n 0, 1) := by decide +kernel
theorem dX5_canTakeCard_12 : decode cX5_canTakeCard 12 = .ok (.getfield 19, 3) := by decide +kernel
theorem dX5_canTakeCard_15 : decode cX5_canTakeCard 15 = .ok (.arraylength, 1) := by decide +kernel
theorem dX5_canTakeCard_16 : decode cX5_canTakeCard 16 = .ok (.if_icmp .ge 7, 3) := by decide +kernel
theorem dX5_canTakeCard_19 : decode cX5_canTakeCard 19 = .ok (.iconst 1, 1) := by decide +kernel
theorem dX5_canTakeCard_20 : decode cX5_canTakeCard 20 = .ok (.goto 4, 3) := by decide +kernel
theorem dX5_canTakeCard_23 : decode cX5_canTakeCard 23 = .ok (.iconst 0, 1) := by decide +kernel
theorem dX5_canTakeCard_24 : decode cX5_canTakeCard 24 = .ok (.ireturn, 1) := by decide +kernel
theorem dX5_addGate_0 : decode cX5_addGate 0 = .ok (.aload_n 0, 1) := by decide +kernel
theorem dX5_addGate_1 : decode cX5_addGate 1 = .ok (.getfield 39, 3) := by decide +kernel
theorem dX5_addGate_4 : decode cX5_addGate 4 = .ok (.ifCond .lt 38, 3) := by decide +kernel
theorem dX5_addGate_7 : decode cX5_addGate 7 = .ok (.aload_n 0, 1) := by decide +kernel
theorem dX5_addGate_8 : decode cX5_addGate 8 = .ok (.getfield 39, 3) := by decide +kernel
theorem dX5_addGate_11 : decode cX5_addGate 11 = .ok (.aload_n 0, 1) := by decide +kernel
theorem dX5_addGate_12 : decode cX5_addGate 12 = .ok (.getfield 11, 3) := by decide +kernel
theorem dX5_addGate_15 : decode cX5_addGate 15 = .ok (.arraylength, 1) := by decide +kernel
theorem dX5_addGate_16 : decode cX5_addGate 16 = .ok (.if_icmp .ge 26, 3) := by decide +kernel
theorem dX5_addGate_19 : decode cX5_addGate 19 = .ok (.aload_n 0, 1) := by decide +kernel
theorem dX5_addGate_20 : decode cX5_addGate 20 = .ok (.getfield 11, 3) := by decide +kernel
theorem dX5_addGate_23 : decode cX5_addGate 23 = .ok (.aload_n 0, 1) := by decide +kernel
theorem dX5_addGate_24 : decode cX5_addGate 24 = .ok (.getfield 39, 3) := by decide +kernel
theorem dX5_addGate_27 : decode cX5_addGate 27 = .ok (.aaload, 1) := by decide +kernel
theorem dX5_addGate_28 : decode cX5_addGate 28 = .ok (.iload_n 1, 1) := by decide +kernel
theorem dX5_addGate_29 : decode cX5_addGate 29 = .ok (.putfield 75, 3) := by decide +kernel
theorem dX5_addGate_32 : decode cX5_addGate 32 = .ok (.aload_n 0, 1) := by decide +kernel
theorem dX5_addGate_33 : decode cX5_addGate 33 = .ok (.dup, 1) := by decide +kernel
theorem dX5_addGate_34 : decode cX5_addGate 34 = .ok (.getfield 39, 3) := by decide +kernel
theorem dX5_addGate_37 : decode cX5_addGate 37 = .ok (.iconst 1, 1) := by decide +kernel
theorem dX5_addGate_38 : decode cX5_addGate 38 = .ok (.iadd, 1) := by decide +kernel
theorem dX5_addGate_39 : decode cX5_addGate 39 = .ok (.putfield 39, 3) := by decide +kernel
theorem dX5_addGate_42 : decode cX5_addGate 42 = .ok (.return_, 1) := by decide +kernel
theorem dX5_addCard_0 : decode cX5_addCard 0 = .ok (.aload_n 0, 1) := by decide +kernel
theorem dX5_addCard_1 : decode cX5_addCard 1 = .ok (.getfield 42, 3) := by decide +kernel
theorem dX5_addCard_4 : decode cX5_addCard 4 = .ok (.ifCond .lt 51, 3) := by decide +kernel
theorem dX5_addCard_7 : decode cX5_addCard 7 = .ok (.aload_n 0, 1) := by decide +kernel
theorem dX5_addCard_8 : decode cX5_addCard 8 = .ok (.getfield 42, 3) := by decide +kernel
theorem dX5_addCard_11 : decode cX5_addCard 11 = .ok (.aload_n 0, 1) := by decide +kernel
theorem dX5_addCard_12 : decode cX5_addCard 12 = .ok (.getfield 19, 3) := by decide +kernel
theorem dX5_addCard_15 : decode cX5_addCard 15 = .ok (.arraylength, 1) := by decide +kernel
theorem dX5_addCard_16 : decode cX5_addCard 16 = .ok (.if_icmp .ge 39, 3) := by decide +kernel
theorem dX5_addCard_19 : decode cX5_addCard 19 = .ok (.aload_n 0, 1) := by decide +kernel
theorem dX5_addCard_20 : decode cX5_addCard 20 = .ok (.getfield 19, 3) := by decide +kernel
theorem dX5_addCard_23 : decode cX5_addCard 23 = .ok (.aload_n 0, 1) := by decide +kernel
theorem dX5_addCard_24 : decode cX5_addCard 24 = .ok (.getfield 42, 3) := by decide +kernel
theorem dX5_addCard_27 : decode cX5_addCard 27 = .ok (.aaload, 1) := by decide +kernel
theorem dX5_addCard_28 : decode cX5_addCard 28 = .ok (.iload_n 1, 1) := by decide +kernel
theorem dX5_addCard_29 : decode cX5_addCard 29 = .ok (.putfield 78, 3) := by decide +kernel
theorem dX5_addCard_32 : decode cX5_addCard 32 = .ok (.aload_n 0, 1) := by decide +kernel
theorem dX5_addCard_33 : decode cX5_addCard 33 = .ok (.getfield 19, 3) := by decide +kernel
theorem dX5_addCard_36 : decode cX5_addCard 36 = .ok (.aload_n 0, 1) := by decide +kernel
theorem dX5_addCard_37 : decode cX5_addCard 37 = .ok (.getfield 42, 3) := by decide +kernel
theorem dX5_addCard_40 : decode cX5_addCard 40 = .ok (.aaload, 1) := by decide +kernel
theorem dX5_addCard_41 : decode cX5_addCard 41 = .ok (.iload_n 2, 1) := by decide +kernel
theorem dX5_addCard_42 : decode cX5_addCard 42 = .ok (.putfield 81, 3) := by decide +kernel
theorem dX5_addCard_45 : decode cX5_addCard 45 = .ok (.aload_n 0, 1) := by decide +kernel
theorem dX5_addCard_46 : decode cX5_addCard 46 = .ok (.dup, 1) := by decide +kernel
theorem dX5_addCard_47 : decode cX5_addCard 47 = .ok (.getfield 42, 3) := by decide +kernel
theorem dX5_addCard_50 : decode cX5_addCard 50 = .ok (.iconst 1, 1) := by decide +kernel
theorem dX5_addCard_51 : decode cX5_addCard 51 = .ok (.iadd, 1) := by decide +kernel
theorem dX5_addCard_52 : decode cX5_addCard 52 = .ok (.putfield 42, 3) := by decide +kernel
theorem dX5_addCard_55 : decode cX5_addCard 55 = .ok (.return_, 1) := by decide +kernel
theorem dX5_cardNamed_0 : decode cX5_cardNamed 0 = .ok (.iconst 0, 1) := by decide +kernel
theorem dX5_cardNamed_1 : decode cX5_cardNamed 1 = .ok (.istore_n 2, 1) := by decide +kernel
theorem dX5_cardNamed_2 : decode cX5_cardNamed 2 = .ok (.iload_n 2, 1) := by decide +kernel
theorem dX5_cardNamed_3 : decode cX5_cardNamed 3 = .ok (.aload_n 0, 1) := by decide +kernel
theorem dX5_cardNamed_4 : decode cX5_cardNamed 4 = .ok (.getfield 42, 3) := by decide +kernel
theorem dX5_cardNamed_7 : decode cX5_cardNamed 7 = .ok (.if_icmp .ge 33, 3) := by decide +kernel
theorem dX5_cardNamed_10 : decode cX5_cardNamed 10 = .ok (.iload_n 2, 1) := by decide +kernel
theorem dX5_cardNamed_11 : decode cX5_cardNamed 11 = .ok (.aload_n 0, 1) := by decide +kernel
theorem dX5_cardNamed_12 : decode cX5_cardNamed 12 = .ok (.getfield 19, 3) := by decide +kernel
theorem dX5_cardNamed_15 : decode cX5_cardNamed 15 = .ok (.arraylength, 1) := by decide +kernel
theorem dX5_cardNamed_16 : decode cX5_cardNamed 16 = .ok (.if_icmp .ge 24, 3) := by decide +kernel
theorem dX5_cardNamed_19 : decode cX5_cardNamed 19 = .ok (.aload_n 0, 1) := by decide +kernel
theorem dX5_cardNamed_20 : decode cX5_cardNamed 20 = .ok (.getfield 19, 3) := by decide +kernel
theorem dX5_cardNamed_23 : decode cX5_cardNamed 23 = .ok (.iload_n 2, 1) := by decide +kernel
theorem dX5_cardNamed_24 : decode cX5_cardNamed 24 = .ok (.aaload, 1) := by decide +kernel
theorem dX5_cardNamed_25 : decode cX5_cardNamed 25 = .ok (.getfield 78, 3) := by decide +kernel
theorem dX5_cardNamed_28 : decode cX5_cardNamed 28 = .ok (.iload_n 1, 1) := by decide +kernel
theorem dX5_cardNamed_29 : decode cX5_cardNamed 29 = .ok (.if_icmp .ne 5, 3) := by decide +kernel
theorem dX5_cardNamed_32 : decode cX5_cardNamed 32 = .ok (.iload_n 2, 1) := by decide +kernel
theorem dX5_cardNamed_33 : decode cX5_cardNamed 33 = .ok (.ireturn, 1) := by decide +kernel
theorem dX5_cardNamed_34 : decode cX5_cardNamed 34 = .ok (.iinc 2 1, 3) := by decide +kernel
theorem dX5_cardNamed_37 : decode cX5_cardNamed 37 = .ok (.goto (-35), 3) := by decide +kernel
theorem dX5_cardNamed_40 : decode cX5_cardNamed 40 = .ok (.iconst (-1), 1) := by decide +kernel
theorem dX5_cardNamed_41 : decode cX5_cardNamed 41 = .ok (.ireturn, 1) := by decide +kernel
theorem dX5_numberOfState_0 : decode cX5_numberOfState 0 = .ok (.iload_n 1, 1) := by decide +kernel
theorem dX5_numberOfState_1 : decode cX5_numberOfState 1 = .ok (.tableswitch 158 0 14 #[75, 80, 85, 90, 95, 100, 105, 110, 123, 128, 133, 138, 143, 148, 153], 75) := by decide +kernel
theorem dX5_numberOfState_76 : decode cX5_numberOfState 76 = .ok (.aload_n 0, 1) := by decide +kernel
theorem dX5_numberOfState_77 : decode cX5_numberOfState 77 = .ok (.getfield 39, 3) := by decide +kernel
theorem dX5_numberOfState_80 : decode cX5_numberOfState 80 = .ok (.ireturn, 1) := by decide +kernel
theorem dX5_numberOfState_81 : decode cX5_numberOfState 81 = .ok (.aload_n 0, 1) := by decide +kernel
theorem dX5_numberOfState_82 : decode cX5_numberOfState 82 = .ok (.getfield 42, 3) := by decide +kernel
theorem dX5_numberOfState_85 : decode cX5_numberOfState 85 = .ok (.ireturn, 1) := by decide +kernel
theorem dX5_numberOfState_86 : decode cX5_numberOfState 86 = .ok (.aload_n 0, 1) := by decide +kernel
theorem dX5_numberOfState_87 : decode cX5_numberOfState 87 = .ok (.getfield 23, 3) := by decide +kernel
theorem dX5_numberOfState_90 : decode cX5_numberOfState 90 = .ok (.ireturn, 1) := by decide +kernel
theorem dX5_numberOfState_91 : decode cX5_numberOfState 91 = .ok (.aload_n 0, 1) := by decide +kernel
theorem dX5_numberOfState_92 : decode cX5_numberOfState 92 = .ok (.getfield 27, 3) := by decide +kernel
theorem dX5_numberOfState_95 : decode cX5_numberOfState 95 = .ok (.ireturn, 1) := by decide +kernel
theorem dX5_numberOfState_96 : decode cX5_numberOfState 96 = .ok (.aload_n 0, 1) := by decide +kernel
theorem dX5_numberOfState_97 : decode cX5_numberOfState 97 = .ok (.getfield 48, 3) := by decide +kernel
theorem dX5_numberOfState_100 : decode cX5_numberOfState 100 = .ok (.ireturn, 1) := by decide +kernel
theorem dX5_numberOfState_101 : decode cX5_numberOfState 101 = .ok (.aload_n 0, 1) := by decide +kernel
theorem dX5_numberOfState_102 : decode cX5_numberOfState 102 = .ok (.getfield 51, 3) := by decide +kernel
theorem dX5_numberOfState_105 : decode cX5_numberOfState 105 = .ok (.ireturn, 1) := by decide +kernel
theorem dX5_numberOfState_106 : decode cX5_numberOfState 106 = .ok (.aload_n 0, 1) := by decide +kernel
theorem dX5_numberOfState_107 : decode cX5_numberOfState 107 = .ok (.invokevirtual 84, 3) := by decide +kernel
theorem dX5_numberOfState_110 : decode cX5_numberOfState 110 = .ok (.ireturn, 1) := by decide +kernel
theorem dX5_numberOfState_111 : decode cX5_numberOfState 111 = .ok (.aload_n 0, 1) := by decide +kernel
theorem dX5_numberOfState_112 : decode cX5_numberOfState 112 = .ok (.invokevirtual 88, 3) := by decide +kernel
theorem dX5_numberOfState_115 : decode cX5_numberOfState 115 = .ok (.ifCond .eq 7, 3) := by decide +kernel
theorem dX5_numberOfState_118 : decode cX5_numberOfState 118 = .ok (.iconst 1, 1) := by decide +kernel
theorem dX5_numberOfState_119 : decode cX5_numberOfState 119 = .ok (.goto 4, 3) := by decide +kernel
theorem dX5_numberOfState_122 : decode cX5_numberOfState 122 = .ok (.iconst 0, 1) := by decide +kernel
theorem dX5_numberOfState_123 : decode cX5_numberOfState 123 = .ok (.ireturn, 1) := by decide +kernel
theorem dX5_numberOfState_124 : decode cX5_numberOfState 124 = .ok (.aload_n 0, 1) := by decide +kernel
theorem dX5_numberOfState_125 : decode cX5_numberOfState 125 = .ok (.invokevirtual 92, 3) := by decide +kernel
theorem dX5_numberOfState_128 : decode cX5_numberOfState 128 = .ok (.ireturn, 1) := by decide +kernel
theorem dX5_numberOfState_129 : decode cX5_numberOfState 129 = .ok (.aload_n 0, 1) := by decide +kernel
theorem dX5_numberOfState_130 : decode cX5_numberOfState 130 = .ok (.getfield 54, 3) := by decide +kernel
theorem dX5_numberOfState_133 : decode cX5_numberOfState 133 = .ok (.ireturn, 1) := by decide +kernel
theorem dX5_numberOfState_134 : decode cX5_numberOfState 134 = .ok (.aload_n 0, 1) := by decide +kernel
theorem dX5_numberOfState_135 : decode cX5_numberOfState 135 = .ok (.getfield 57, 3) := by decide +kernel
theorem dX5_numberOfState_138 : decode cX5_numberOfState 138 = .ok (.ireturn, 1) := by decide +kernel
theorem dX5_numberOfState_139 : decode cX5_numberOfState 139 = .ok (.aload_n 0, 1) := by decide +kernel
theorem dX5_numberOfState_140 : decode cX5_numberOfState 140 = .ok (.getfield 60, 3) := by decide +kernel
theorem dX5_numberOfState_143 : decode cX5_numberOfState 143 = .ok (.ireturn, 1) := by decide +kernel
theorem dX5_numberOfState_144 : decode cX5_numberOfState 144 = .ok (.aload_n 0, 1) := by decide +kernel
theorem dX5_numberOfState_145 : decode cX5_numberOfState 145 = .ok (.getfield 63, 3) := by decide +kernel
theorem dX5_numberOfState_148 : decode cX5_numberOfState 148 = .ok (.ireturn, 1) := by decide +kernel
theorem dX5_numberOfState_149 : decode cX5_numberOfState 149 = .ok (.aload_n 0, 1) := by decide +kernel
theorem dX5_numberOfState_150 : decode cX5_numberOfState 150 = .ok (.getfield 69, 3) := by decide +kernel
theorem dX5_numberOfState_153 : decode cX5_numberOfState 153 = .ok (.ireturn, 1) := by decide +kernel
theorem dX5_numberOfState_154 : decode cX5_numberOfState 154 = .ok (.aload_n 0, 1) := by decide +kernel
theorem dX5_numberOfState_155 : decode cX5_numberOfState 155 = .ok (.getfield 72, 3) := by decide +kernel
theorem dX5_numberOfState_158 : decode cX5_numberOfState 158 = .ok (.ireturn, 1) := by decide +kernel
theorem dX5_numberOfState_159 : decode cX5_numberOfState 159 = .ok (.aload_n 0, 1) := by decide +kernel
theorem dX5_numberOfState_160 : decode cX5_numberOfState 160 = .ok (.invokevirtual 95, 3) := by decide +kernel
theorem dX5_numberOfState_163 : decode cX5_numberOfState 163 = .ok (.ireturn, 1) := by decide +kernel
theorem dX5_numberOfCard_0 : decode cX5_numberOfCard 0 = .ok (.aload_n 0, 1) := by decide +kernel
theorem dX5_numberOfCard_1 : decode cX5_numberOfCard 1 = .ok (.iload_n 1, 1) := by decide +kernel
theorem dX5_numberOfCard_2 : decode cX5_numberOfCard 2 = .ok (.invokevirtual 98, 3) := by decide +kernel
theorem dX5_numberOfCard_5 : decode cX5_numberOfCard 5 = .ok (.ifCond .ne 5, 3) := by decide +kernel
theorem dX5_numberOfCard_8 : decode cX5_numberOfCard 8 = .ok (.iconst (-1), 1) := by decide +kernel
theorem dX5_numberOfCard_9 : decode cX5_numberOfCard 9 = .ok (.ireturn, 1) := by decide +kernel
theorem dX5_numberOfCard_10 : decode cX5_numberOfCard 10 = .ok (.iload_n 2, 1) := by decide +kernel
theorem dX5_numberOfCard_11 : decode cX5_numberOfCard 11 = .ok (.tableswitch 101 0 5 #[37, 47, 65, 83, 89, 95], 37) := by decide +kernel
theorem dX5_numberOfCard_48 : decode cX5_numberOfCard 48 = .ok (.aload_n 0, 1) := by decide +kernel
theorem dX5_numberOfCard_49 : decode cX5_numberOfCard 49 = .ok (.getfield 19, 3) := by decide +kernel
theorem dX5_numberOfCard_52 : decode cX5_numberOfCard 52 = .ok (.iload_n 1, 1) := by decide +kernel
theorem dX5_numberOfCard_53 : decode cX5_numberOfCard 53 = .ok (.aaload, 1) := by decide +kernel
theorem dX5_numberOfCard_54 : decode cX5_numberOfCard 54 = .ok (.getfield 81, 3) := by decide +kernel
theorem dX5_numberOfCard_57 : decode cX5_numberOfCard 57 = .ok (.ireturn, 1) := by decide +kernel
theorem dX5_numberOfCard_58 : decode cX5_numberOfCard 58 = .ok (.aload_n 0, 1) := by decide +kernel
theorem dX5_numberOfCard_59 : decode cX5_numberOfCard 59 = .ok (.getfield 19, 3) := by decide +kernel
theorem dX5_numberOfCard_62 : decode cX5_numberOfCard 62 = .ok (.iload_n 1, 1) := by decide +kernel
theorem dX5_numberOfCard_63 : decode cX5_numberOfCard 63 = .ok (.aaload, 1) := by decide +kernel
theorem dX5_numberOfCard_64 : decode cX5_numberOfCard 64 = .ok (.getfield 102, 3) := by decide +kernel
theorem dX5_numberOfCard_67 : decode cX5_numberOfCard 67 = .ok (.ifCond .eq 7, 3) := by decide +kernel
theorem dX5_numberOfCard_70 : decode cX5_numberOfCard 70 = .ok (.iconst 1, 1) := by decide +kernel
theorem dX5_numberOfCard_71 : decode cX5_numberOfCard 71 = .ok (.goto 4, 3) := by decide +kernel
theorem dX5_numberOfCard_74 : decode cX5_numberOfCard 74 = .ok (.iconst 0, 1) := by decide +kernel
theorem dX5_numberOfCard_75 : decode cX5_numberOfCard 75 = .ok (.ireturn, 1) := by decide +kernel
theorem dX5_numberOfCard_76 : decode cX5_numberOfCard 76 = .ok (.aload_n 0, 1) := by decide +kernel
theorem dX5_numberOfCard_77 : decode cX5_numberOfCard 77 = .ok (.getfield 19, 3) := by decide +kernel
theorem dX5_numberOfCard_80 : decode cX5_numberOfCard 80 = .ok (.iload_n 1, 1) := by decide +kernel
theorem dX5_numberOfCard_81 : decode cX5_numberOfCard 81 = .ok (.aaload, 1) := by decide +kernel
theorem dX5_numberOfCard_82 : decode cX5_numberOfCard 82 = .ok (.getfield 106, 3) := by decide +kernel
theorem dX5_numberOfCard_85 : decode cX5_numberOfCard 85 = .ok (.ifCond .eq 7, 3) := by decide +kernel
theorem dX5_numberOfCard_88 : decode cX5_numberOfCard 88 = .ok (.iconst 1, 1) := by decide +kernel
theorem dX5_numberOfCard_89 : decode cX5_numberOfCard 89 = .ok (.goto 4, 3) := by decide +kernel
theorem dX5_numberOfCard_92 : decode cX5_numberOfCard 92 = .ok (.iconst 0, 1) := by decide +kernel
theorem dX5_numberOfCard_93 : decode cX5_numberOfCard 93 = .ok (.ireturn, 1) := by decide +kernel
theorem dX5_numberOfCard_94 : decode cX5_numberOfCard 94 = .ok (.aload_n 0, 1) := by decide +kernel
theorem dX5_numberOfCard_95 : decode cX5_numberOfCard 95 = .ok (.iload_n 1, 1) := by decide +kernel
theorem dX5_numberOfCard_96 : decode cX5_numberOfCard 96 = .ok (.invokevirtual 109, 3) := by decide +kernel
theorem dX5_numberOfCard_99 : decode cX5_numberOfCard 99 = .ok (.ireturn, 1) := by decide +kernel
theorem dX5_numberOfCard_100 : decode cX5_numberOfCard 100 = .ok (.aload_n 0, 1) := by decide +kernel
theorem dX5_numberOfCard_101 : decode cX5_numberOfCard 101 = .ok (.iload_n 1, 1) := by decide +kernel
theorem dX5_numberOfCard_102 : decode cX5_numberOfCard 102 = .ok (.invokevirtual 113, 3) := by decide +kernel
theorem dX5_numberOfCard_105 : decode cX5_numberOfCard 105 = .ok (.ireturn, 1) := by decide +kernel
theorem dX5_numberOfCard_106 : decode cX5_numberOfCard 106 = .ok (.aload_n 0, 1) := by decide +kernel
theorem dX5_numberOfCard_107 : decode cX5_numberOfCard 107 = .ok (.iload_n 1, 1) := by decide +kernel
theorem dX5_numberOfCard_108 : decode cX5_numberOfCard 108 = .ok (.invokevirtual 116, 3) := by decide +kernel
theorem dX5_numberOfCard_111 : decode cX5_numberOfCard 111 = .ok (.ireturn, 1) := by decide +kernel
theorem dX5_numberOfCard_112 : decode cX5_numberOfCard 112 = .ok (.aload_n 0, 1) := by decide +kernel
theorem dX5_numberOfCard_113 : decode cX5_numberOfCard 113 = .ok (.getfield 19, 3) := by decide +kernel
theorem dX5_numberOfCard_116 : decode cX5_numberOfCard 116 = .ok (.iload_n 1, 1) := by decide +kernel
theorem dX5_numberOfCard_117 : decode cX5_numberOfCard 117 = .ok (.aaload, 1) := by decide +kernel
theorem dX5_numberOfCard_118 : decode cX5_numberOfCard 118 = .ok (.getfield 119, 3) := by decide +kernel
theorem dX5_numberOfCard_121 : decode cX5_numberOfCard 121 = .ok (.ireturn, 1) := by decide +kernel
theorem dX5_gateWithInLine_0 : decode cX5_gateWithInLine 0 = .ok (.iconst 0, 1) := by decide +kernel
theorem dX5_gateWithInLine_1 : decode cX5_gateWithInLine 1 = .ok (.istore_n 2, 1) := by decide +kernel
theorem dX5_gateWithInLine_2 : decode cX5_gateWithInLine 2 = .ok (.iload_n 2, 1) := by decide +kernel
theorem dX5_gateWithInLine_3 : decode cX5_gateWithInLine 3 = .ok (.aload_n 0, 1) := by decide +kernel
theorem dX5_gateWithInLine_4 : decode cX5_gateWithInLine 4 = .ok (.getfield 39, 3) := by decide +kernel
theorem dX5_gateWithInLine_7 : decode cX5_gateWithInLine 7 = .ok (.if_icmp .ge 54, 3) := by decide +kernel
theorem dX5_gateWithInLine_10 : decode cX5_gateWithInLine 10 = .ok (.iload_n 2, 1) := by decide +kernel
theorem dX5_gateWithInLine_11 : decode cX5_gateWithInLine 11 = .ok (.aload_n 0, 1) := by decide +kernel
theorem dX5_gateWithInLine_12 : decode cX5_gateWithInLine 12 = .ok (.getfield 11, 3) := by decide +kernel
theorem dX5_gateWithInLine_15 : decode cX5_gateWithInLine 15 = .ok (.arraylength, 1) := by decide +kernel
theorem dX5_gateWithInLine_16 : decode cX5_gateWithInLine 16 = .ok (.if_icmp .ge 45, 3) := by decide +kernel
theorem dX5_gateWithInLine_19 : decode cX5_gateWithInLine 19 = .ok (.aload_n 0, 1) := by decide +kernel
theorem dX5_gateWithInLine_20 : decode cX5_gateWithInLine 20 = .ok (.getfield 11, 3) := by decide +kernel
theorem dX5_gateWithInLine_23 : decode cX5_gateWithInLine 23 = .ok (.iload_n 2, 1) := by decide +kernel
theorem dX5_gateWithInLine_24 : decode cX5_gateWithInLine 24 = .ok (.aaload, 1) := by decide +kernel
theorem dX5_gateWithInLine_25 : decode cX5_gateWithInLine 25 = .ok (.getfield 122, 3) := by decide +kernel
theorem dX5_gateWithInLine_28 : decode cX5_gateWithInLine 28 = .ok (.iload_n 1, 1) := by decide +kernel
theorem dX5_gateWithInLine_29 : decode cX5_gateWithInLine 29 = .ok (.invokevirtual 126, 3) := by decide +kernel
theorem dX5_gateWithInLine_32 : decode cX5_gateWithInLine 32 = .ok (.iconst (-1), 1) := by decide +kernel
theorem dX5_gateWithInLine_33 : decode cX5_gateWithInLine 33 = .ok (.if_icmp .ne 20, 3) := by decide +kernel
theorem dX5_gateWithInLine_36 : decode cX5_gateWithInLine 36 = .ok (.aload_n 0, 1) := by decide +kernel
theorem dX5_gateWithInLine_37 : decode cX5_gateWithInLine 37 = .ok (.getfield 11, 3) := by decide +kernel
theorem dX5_gateWithInLine_40 : decode cX5_gateWithInLine 40 = .ok (.iload_n 2, 1) := by decide +kernel
theorem dX5_gateWithInLine_41 : decode cX5_gateWithInLine 41 = .ok (.aaload, 1) := by decide +kernel
theorem dX5_gateWithInLine_42 : decode cX5_gateWithInLine 42 = .ok (.getfield 131, 3) := by decide +kernel
theorem dX5_gateWithInLine_45 : decode cX5_gateWithInLine 45 = .ok (.iload_n 1, 1) := by decide +kernel
theorem dX5_gateWithInLine_46 : decode cX5_gateWithInLine 46 = .ok (.invokevirtual 126, 3) := by decide +kernel
theorem dX5_gateWithInLine_49 : decode cX5_gateWithInLine 49 = .ok (.iconst (-1), 1) := by decide +kernel
theorem dX5_gateWithInLine_50 : decode cX5_gateWithInLine 50 = .ok (.if_icmp .eq 5, 3) := by decide +kernel
theorem dX5_gateWithInLine_53 : decode cX5_gateWithInLine 53 = .ok (.iload_n 2, 1) := by decide +kernel
theorem dX5_gateWithInLine_54 : decode cX5_gateWithInLine 54 = .ok (.ireturn, 1) := by decide +kernel
theorem dX5_gateWithInLine_55 : decode cX5_gateWithInLine 55 = .ok (.iinc 2 1, 3) := by decide +kernel
theorem dX5_gateWithInLine_58 : decode cX5_gateWithInLine 58 = .ok (.goto (-56), 3) := by decide +kernel
theorem dX5_gateWithInLine_61 : decode cX5_gateWithInLine 61 = .ok (.iconst (-1), 1) := by decide +kernel
theorem dX5_gateWithInLine_62 : decode cX5_gateWithInLine 62 = .ok (.ireturn, 1) := by decide +kernel
theorem dX5_sideInLine_0 : decode cX5_sideInLine 0 = .ok (.aload_n 0, 1) := by decide +kernel
theorem dX5_sideInLine_1 : decode cX5_sideInLine 1 = .ok (.iload_n 1, 1) := by decide +kernel
theorem dX5_sideInLine_2 : decode cX5_sideInLine 2 = .ok (.invokevirtual 109, 3) := by decide +kernel
theorem dX5_sideInLine_5 : decode cX5_sideInLine 5 = .ok (.istore_n 2, 1) := by decide +kernel
theorem dX5_sideInLine_6 : decode cX5_sideInLine 6 = .ok (.aload_n 0, 1) := by decide +kernel
theorem dX5_sideInLine_7 : decode cX5_sideInLine 7 = .ok (.iload_n 2, 1) := by decide +kernel
theorem dX5_sideInLine_8 : decode cX5_sideInLine 8 = .ok (.invokevirtual 134, 3) := by decide +kernel
theorem dX5_sideInLine_11 : decode cX5_sideInLine 11 = .ok (.ifCond .ne 5, 3) := by decide +kernel
theorem dX5_sideInLine_14 : decode cX5_sideInLine 14 = .ok (.iconst (-1), 1) := by decide +kernel
theorem dX5_sideInLine_15 : decode cX5_sideInLine 15 = .ok (.ireturn, 1) := by decide +kernel
theorem dX5_sideInLine_16 : decode cX5_sideInLine 16 = .ok (.aload_n 0, 1) := by decide +kernel
theorem dX5_sideInLine_17 : decode cX5_sideInLine 17 = .ok (.getfield 11, 3) := by decide +kernel
theorem dX5_sideInLine_20 : decode cX5_sideInLine 20 = .ok (.iload_n 2, 1) := by decide +kernel
theorem dX5_sideInLine_21 : decode cX5_sideInLine 21 = .ok (.aaload, 1) := by decide +kernel
theorem dX5_sideInLine_22 : decode cX5_sideInLine 22 = .ok (.getfield 122, 3) := by decide +kernel
theorem dX5_sideInLine_25 : decode cX5_sideInLine 25 = .ok (.iload_n 1, 1) := by decide +kernel
theorem dX5_sideInLine_26 : decode cX5_sideInLine 26 = .ok (.invokevirtual 126, 3) := by decide +kernel
theorem dX5_sideInLine_29 : decode cX5_sideInLine 29 = .ok (.iconst (-1), 1) := by decide +kernel
theorem dX5_sideInLine_30 : decode cX5_sideInLine 30 = .ok (.if_icmp .eq 7, 3) := by decide +kernel
theorem dX5_sideInLine_33 : decode cX5_sideInLine 33 = .ok (.iconst 0, 1) := by decide +kernel
theorem dX5_sideInLine_34 : decode cX5_sideInLine 34 = .ok (.goto 4, 3) := by decide +kernel
theorem dX5_sideInLine_37 : decode cX5_sideInLine 37 = .ok (.iconst 1, 1) := by decide +kernel
theorem dX5_sideInLine_38 : decode cX5_sideInLine 38 = .ok (.ireturn, 1) := by decide +kernel
theorem dX5_placeInLine_0 : decode cX5_placeInLine 0 = .ok (.aload_n 0, 1) := by decide +kernel
theorem dX5_placeInLine_1 : decode cX5_placeInLine 1 = .ok (.iload_n 1, 1) := by decide +kernel
theorem dX5_placeInLine_2 : decode cX5_placeInLine 2 = .ok (.invokevirtual 109, 3) := by decide +kernel
theorem dX5_placeInLine_5 : decode cX5_placeInLine 5 = .ok (.istore_n 2, 1) := by decide +kernel
theorem dX5_placeInLine_6 : decode cX5_placeInLine 6 = .ok (.aload_n 0, 1) := by decide +kernel
theorem dX5_placeInLine_7 : decode cX5_placeInLine 7 = .ok (.iload_n 2, 1) := by decide +kernel
theorem dX5_placeInLine_8 : decode cX5_placeInLine 8 = .ok (.invokevirtual 134, 3) := by decide +kernel
theorem dX5_placeInLine_11 : decode cX5_placeInLine 11 = .ok (.ifCond .ne 5, 3) := by decide +kernel
theorem dX5_placeInLine_14 : decode cX5_placeInLine 14 = .ok (.iconst (-1), 1) := by decide +kernel
theorem dX5_placeInLine_15 : decode cX5_placeInLine 15 = .ok (.ireturn, 1) := by decide +kernel
theorem dX5_placeInLine_16 : decode cX5_placeInLine 16 = .ok (.aload_n 0, 1) := by decide +kernel
theorem dX5_placeInLine_17 : decode cX5_placeInLine 17 = .ok (.getfield 11, 3) := by decide +kernel
theorem dX5_placeInLine_20 : decode cX5_placeInLine 20 = .ok (.iload_n 2, 1) := by decide +kernel
theorem dX5_placeInLine_21 : decode cX5_placeInLine 21 = .ok (.aaload, 1) := by decide +kernel
theorem dX5_placeInLine_22 : decode cX5_placeInLine 22 = .ok (.aload_n 0, 1) := by decide +kernel
theorem dX5_placeInLine_23 : decode cX5_placeInLine 23 = .ok (.iload_n 1, 1) := by decide +kernel
theorem dX5_placeInLine_24 : decode cX5_placeInLine 24 = .ok (.invokevirtual 113, 3) := by decide +kernel
theorem dX5_placeInLine_27 : decode cX5_placeInLine 27 = .ok (.invokevirtual 137, 3) := by decide +kernel
theorem dX5_placeInLine_30 : decode cX5_placeInLine 30 = .ok (.iload_n 1, 1) := by decide +kernel
theorem dX5_placeInLine_31 : decode cX5_placeInLine 31 = .ok (.invokevirtual 126, 3) := by decide +kernel
theorem dX5_placeInLine_34 : decode cX5_placeInLine 34 = .ok (.ireturn, 1) := by decide +kernel
theorem dX5_peopleInAllLines_0 : decode cX5_peopleInAllLines 0 = .ok (.iconst 0, 1) := by decide +kernel
theorem dX5_peopleInAllLines_1 : decode cX5_peopleInAllLines 1 = .ok (.istore_n 1, 1) := by decide +kernel
theorem dX5_peopleInAllLines_2 : decode cX5_peopleInAllLines 2 = .ok (.aload_n 0, 1) := by decide +kernel
theorem dX5_peopleInAllLines_3 : decode cX5_peopleInAllLines 3 = .ok (.getfield 11, 3) := by decide +kernel
theorem dX5_peopleInAllLines_6 : decode cX5_peopleInAllLines 6 = .ok (.astore_n 2, 1) := by decide +kernel
theorem dX5_peopleInAllLines_7 : decode cX5_peopleInAllLines 7 = .ok (.aload_n 2, 1) := by decide +kernel
theorem dX5_peopleInAllLines_8 : decode cX5_peopleInAllLines 8 = .ok (.arraylength, 1) := by decide +kernel
theorem dX5_peopleInAllLines_9 : decode cX5_peopleInAllLines 9 = .ok (.istore_n 3, 1) := by decide +kernel
theorem dX5_peopleInAllLines_10 : decode cX5_peopleInAllLines 10 = .ok (.iconst 0, 1) := by decide +kernel
theorem dX5_peopleInAllLines_11 : decode cX5_peopleInAllLines 11 = .ok (.istore 4, 2) := by decide +kernel
theorem dX5_peopleInAllLines_13 : decode cX5_peopleInAllLines 13 = .ok (.iload 4, 2) := by decide +kernel
theorem dX5_peopleInAllLines_15 : decode cX5_peopleInAllLines 15 = .ok (.iload_n 3, 1) := by decide +kernel
theorem dX5_peopleInAllLines_16 : decode cX5_peopleInAllLines 16 = .ok (.if_icmp .ge 23, 3) := by decide +kernel
theorem dX5_peopleInAllLines_19 : decode cX5_peopleInAllLines 19 = .ok (.aload_n 2, 1) := by decide +kernel
theorem dX5_peopleInAllLines_20 : decode cX5_peopleInAllLines 20 = .ok (.iload 4, 2) := by decide +kernel
theorem dX5_peopleInAllLines_22 : decode cX5_peopleInAllLines 22 = .ok (.aaload, 1) := by decide +kernel
theorem dX5_peopleInAllLines_23 : decode cX5_peopleInAllLines 23 = .ok (.astore 5, 2) := by decide +kernel
theorem dX5_peopleInAllLines_25 : decode cX5_peopleInAllLines 25 = .ok (.iload_n 1, 1) := by decide +kernel
theorem dX5_peopleInAllLines_26 : decode cX5_peopleInAllLines 26 = .ok (.aload 5, 2) := by decide +kernel
theorem dX5_peopleInAllLines_28 : decode cX5_peopleInAllLines 28 = .ok (.invokevirtual 141, 3) := by decide +kernel
theorem dX5_peopleInAllLines_31 : decode cX5_peopleInAllLines 31 = .ok (.iadd, 1) := by decide +kernel
theorem dX5_peopleInAllLines_32 : decode cX5_peopleInAllLines 32 = .ok (.istore_n 1, 1) := by decide +kernel
theorem dX5_peopleInAllLines_33 : decode cX5_peopleInAllLines 33 = .ok (.iinc 4 1, 3) := by decide +kernel
theorem dX5_peopleInAllLines_36 : decode cX5_peopleInAllLines 36 = .ok (.goto (-23), 3) := by decide +kernel
theorem dX5_peopleInAllLines_39 : decode cX5_peopleInAllLines 39 = .ok (.iload_n 1, 1) := by decide +kernel
theorem dX5_peopleInAllLines_40 : decode cX5_peopleInAllLines 40 = .ok (.ireturn, 1) := by decide +kernel
theorem dX5_peopleInInnerLines_0 : decode cX5_peopleInInnerLines 0 = .ok (.iconst 0, 1) := by decide +kernel
theorem dX5_peopleInInnerLines_1 : decode cX5_peopleInInnerLines 1 = .ok (.istore_n 1, 1) := by decide +kernel
theorem dX5_peopleInInnerLines_2 : decode cX5_peopleInInnerLines 2 = .ok (.aload_n 0, 1) := by decide +kernel
theorem dX5_peopleInInnerLines_3 : decode cX5_peopleInInnerLines 3 = .ok (.getfield 11, 3) := by decide +kernel
theorem dX5_peopleInInnerLines_6 : decode cX5_peopleInInnerLines 6 = .ok (.astore_n 2, 1) := by decide +kernel
theorem dX5_peopleInInnerLines_7 : decode cX5_peopleInInnerLines 7 = .ok (.aload_n 2, 1) := by decide +kernel
theorem dX5_peopleInInnerLines_8 : decode cX5_peopleInInnerLines 8 = .ok (.arraylength, 1) := by decide +kernel
theorem dX5_peopleInInnerLines_9 : decode cX5_peopleInInnerLines 9 = .ok (.istore_n 3, 1) := by decide +kernel
theorem dX5_peopleInInnerLines_10 : decode cX5_peopleInInnerLines 10 = .ok (.iconst 0, 1) := by decide +kernel
theorem dX5_peopleInInnerLines_11 : decode cX5_peopleInInnerLines 11 = .ok (.istore 4, 2) := by decide +kernel
theorem dX5_peopleInInnerLines_13 : decode cX5_peopleInInnerLines 13 = .ok (.iload 4, 2) := by decide +kernel
theorem dX5_peopleInInnerLines_15 : decode cX5_peopleInInnerLines 15 = .ok (.iload_n 3, 1) := by decide +kernel
theorem dX5_peopleInInnerLines_16 : decode cX5_peopleInInnerLines 16 = .ok (.if_icmp .ge 26, 3) := by decide +kernel
theorem dX5_peopleInInnerLines_19 : decode cX5_peopleInInnerLines 19 = .ok (.aload_n 2, 1) := by decide +kernel
theorem dX5_peopleInInnerLines_20 : decode cX5_peopleInInnerLines 20 = .ok (.iload 4, 2) := by decide +kernel
theorem dX5_peopleInInnerLines_22 : decode cX5_peopleInInnerLines 22 = .ok (.aaload, 1) := by decide +kernel
theorem dX5_peopleInInnerLines_23 : decode cX5_peopleInInnerLines 23 = .ok (.astore 5, 2) := by decide +kernel
theorem dX5_peopleInInnerLines_25 : decode cX5_peopleInInnerLines 25 = .ok (.iload_n 1, 1) := by decide +kernel
theorem dX5_peopleInInnerLines_26 : decode cX5_peopleInInnerLines 26 = .ok (.aload 5, 2) := by decide +kernel
theorem dX5_peopleInInnerLines_28 : decode cX5_peopleInInnerLines 28 = .ok (.getfield 131, 3) := by decide +kernel
theorem dX5_peopleInInnerLines_31 : decode cX5_peopleInInnerLines 31 = .ok (.getfield 144, 3) := by decide +kernel
theorem dX5_peopleInInnerLines_34 : decode cX5_peopleInInnerLines 34 = .ok (.iadd, 1) := by decide +kernel
theorem dX5_peopleInInnerLines_35 : decode cX5_peopleInInnerLines 35 = .ok (.istore_n 1, 1) := by decide +kernel
theorem dX5_peopleInInnerLines_36 : decode cX5_peopleInInnerLines 36 = .ok (.iinc 4 1, 3) := by decide +kernel
theorem dX5_peopleInInnerLines_39 : decode cX5_peopleInInnerLines 39 = .ok (.goto (-26), 3) := by decide +kernel
theorem dX5_peopleInInnerLines_42 : decode cX5_peopleInInnerLines 42 = .ok (.iload_n 1, 1) := by decide +kernel
theorem dX5_peopleInInnerLines_43 : decode cX5_peopleInInnerLines 43 = .ok (.ireturn, 1) := by decide +kernel
theorem dX5_openGates_0 : decode cX5_openGates 0 = .ok (.iconst 0, 1) := by decide +kernel
theorem dX5_openGates_1 : decode cX5_openGates 1 = .ok (.istore_n 1, 1) := by decide +kernel
theorem dX5_openGates_2 : decode cX5_openGates 2 = .ok (.aload_n 0, 1) := by decide +kernel
theorem dX5_openGates_3 : decode cX5_openGates 3 = .ok (.getfield 11, 3) := by decide +kernel
theorem dX5_openGates_6 : decode cX5_openGates 6 = .ok (.astore_n 2, 1) := by decide +kernel
theorem dX5_openGates_7 : decode cX5_openGates 7 = .ok (.aload_n 2, 1) := by decide +kernel
theorem dX5_openGates_8 : decode cX5_openGates 8 = .ok (.arraylength, 1) := by decide +kernel
theorem dX5_openGates_9 : decode cX5_openGates 9 = .ok (.istore_n 3, 1) := by decide +kernel
theorem dX5_openGates_10 : decode cX5_openGates 10 = .ok (.iconst 0, 1) := by decide +kernel
theorem dX5_openGates_11 : decode cX5_openGates 11 = .ok (.istore 4, 2) := by decide +kernel
theorem dX5_openGates_13 : decode cX5_openGates 13 = .ok (.iload 4, 2) := by decide +kernel
theorem dX5_openGates_15 : decode cX5_openGates 15 = .ok (.iload_n 3, 1) := by decide +kernel
theorem dX5_openGates_16 : decode cX5_openGates 16 = .ok (.if_icmp .ge 26, 3) := by decide +kernel
theorem dX5_openGates_19 : decode cX5_openGates 19 = .ok (.aload_n 2, 1) := by decide +kernel
theorem dX5_openGates_20 : decode cX5_openGates 20 = .ok (.iload 4, 2) := by decide +kernel
theorem dX5_openGates_22 : decode cX5_openGates 22 = .ok (.aaload, 1) := by decide +kernel
theorem dX5_openGates_23 : decode cX5_openGates 23 = .ok (.astore 5, 2) := by decide +kernel
theorem dX5_openGates_25 : decode cX5_openGates 25 = .ok (.aload 5, 2) := by decide +kernel
theorem dX5_openGates_27 : decode cX5_openGates 27 = .ok (.invokevirtual 147, 3) := by decide +kernel
theorem dX5_openGates_30 : decode cX5_openGates 30 = .ok (.ifCond .eq 6, 3) := by decide +kernel
theorem dX5_openGates_33 : decode cX5_openGates 33 = .ok (.iinc 1 1, 3) := by decide +kernel
theorem dX5_openGates_36 : decode cX5_openGates 36 = .ok (.iinc 4 1, 3) := by decide +kernel
theorem dX5_openGates_39 : decode cX5_openGates 39 = .ok (.goto (-26), 3) := by decide +kernel
theorem dX5_openGates_42 : decode cX5_openGates 42 = .ok (.iload_n 1, 1) := by decide +kernel
theorem dX5_openGates_43 : decode cX5_openGates 43 = .ok (.ireturn, 1) := by decide +kernel
theorem dX5_listedCards_0 : decode cX5_listedCards 0 = .ok (.iconst 0, 1) := by decide +kernel
theorem dX5_listedCards_1 : decode cX5_listedCards 1 = .ok (.istore_n 1, 1) := by decide +kernel
theorem dX5_listedCards_2 : decode cX5_listedCards 2 = .ok (.aload_n 0, 1) := by decide +kernel
theorem dX5_listedCards_3 : decode cX5_listedCards 3 = .ok (.getfield 19, 3) := by decide +kernel
theorem dX5_listedCards_6 : decode cX5_listedCards 6 = .ok (.astore_n 2, 1) := by decide +kernel
theorem dX5_listedCards_7 : decode cX5_listedCards 7 = .ok (.aload_n 2, 1) := by decide +kernel
theorem dX5_listedCards_8 : decode cX5_listedCards 8 = .ok (.arraylength, 1) := by decide +kernel
theorem dX5_listedCards_9 : decode cX5_listedCards 9 = .ok (.istore_n 3, 1) := by decide +kernel
theorem dX5_listedCards_10 : decode cX5_listedCards 10 = .ok (.iconst 0, 1) := by decide +kernel
theorem dX5_listedCards_11 : decode cX5_listedCards 11 = .ok (.istore 4, 2) := by decide +kernel
theorem dX5_listedCards_13 : decode cX5_listedCards 13 = .ok (.iload 4, 2) := by decide +kernel
theorem dX5_listedCards_15 : decode cX5_listedCards 15 = .ok (.iload_n 3, 1) := by decide +kernel
theorem dX5_listedCards_16 : decode cX5_listedCards 16 = .ok (.if_icmp .ge 26, 3) := by decide +kernel
theorem dX5_listedCards_19 : decode cX5_listedCards 19 = .ok (.aload_n 2, 1) := by decide +kernel
theorem dX5_listedCards_20 : decode cX5_listedCards 20 = .ok (.iload 4, 2) := by decide +kernel
theorem dX5_listedCards_22 : decode cX5_listedCards 22 = .ok (.aaload, 1) := by decide +kernel
theorem dX5_listedCards_23 : decode cX5_listedCards 23 = .ok (.astore 5, 2) := by decide +kernel
theorem dX5_listedCards_25 : decode cX5_listedCards 25 = .ok (.aload 5, 2) := by decide +kernel
theorem dX5_listedCards_27 : decode cX5_listedCards 27 = .ok (.getfield 106, 3) := by decide +kernel
theorem dX5_listedCards_30 : decode cX5_listedCards 30 = .ok (.ifCond .eq 6, 3) := by decide +kernel
theorem dX5_listedCards_33 : decode cX5_listedCards 33 = .ok (.iinc 1 1, 3) := by decide +kernel
theorem dX5_listedCards_36 : decode cX5_listedCards 36 = .ok (.iinc 4 1, 3) := by decide +kernel
theorem dX5_listedCards_39 : decode cX5_listedCards 39 = .ok (.goto (-26), 3) := by decide +kernel
theorem dX5_listedCards_42 : decode cX5_listedCards 42 = .ok (.iload_n 1, 1) := by decide +kernel
theorem dX5_listedCards_43 : decode cX5_listedCards 43 = .ok (.ireturn, 1) := by decide +kernel
theorem dX5_cardsInTwoLines_0 : decode cX5_cardsInTwoLines 0 = .ok (.iconst 0, 1) := by decide +kernel
theorem dX5_cardsInTwoLines_1 : decode cX5_cardsInTwoLines 1 = .ok (.istore_n 1, 1) := by decide +kernel
theorem dX5_cardsInTwoLines_2 : decode cX5_cardsInTwoLines 2 = .ok (.iconst 0, 1) := by decide +kernel
theorem dX5_cardsInTwoLines_3 : decode cX5_cardsInTwoLines 3 = .ok (.istore_n 2, 1) := by decide +kernel
theorem dX5_cardsInTwoLines_4 : decode cX5_cardsInTwoLines 4 = .ok (.iload_n 2, 1) := by decide +kernel
theorem dX5_cardsInTwoLines_5 : decode cX5_cardsInTwoLines 5 = .ok (.aload_n 0, 1) := by decide +kernel
theorem dX5_cardsInTwoLines_6 : decode cX5_cardsInTwoLines 6 = .ok (.getfield 42, 3) := by decide +kernel
theorem dX5_cardsInTwoLines_9 : decode cX5_cardsInTwoLines 9 = .ok (.if_icmp .ge 104, 3) := by decide +kernel
theorem dX5_cardsInTwoLines_12 : decode cX5_cardsInTwoLines 12 = .ok (.iload_n 2, 1) := by decide +kernel
theorem dX5_cardsInTwoLines_13 : decode cX5_cardsInTwoLines 13 = .ok (.aload_n 0, 1) := by decide +kernel
theorem dX5_cardsInTwoLines_14 : decode cX5_cardsInTwoLines 14 = .ok (.getfield 19, 3) := by decide +kernel
theorem dX5_cardsInTwoLines_17 : decode cX5_cardsInTwoLines 17 = .ok (.arraylength, 1) := by decide +kernel
theorem dX5_cardsInTwoLines_18 : decode cX5_cardsInTwoLines 18 = .ok (.if_icmp .ge 95, 3) := by decide +kernel
theorem dX5_cardsInTwoLines_21 : decode cX5_cardsInTwoLines 21 = .ok (.iconst 0, 1) := by decide +kernel
theorem dX5_cardsInTwoLines_22 : decode cX5_cardsInTwoLines 22 = .ok (.istore_n 3, 1) := by decide +kernel
theorem dX5_cardsInTwoLines_23 : decode cX5_cardsInTwoLines 23 = .ok (.aload_n 0, 1) := by decide +kernel
theorem dX5_cardsInTwoLines_24 : decode cX5_cardsInTwoLines 24 = .ok (.getfield 11, 3) := by decide +kernel
theorem dX5_cardsInTwoLines_27 : decode cX5_cardsInTwoLines 27 = .ok (.astore 4, 2) := by decide +kernel
theorem dX5_cardsInTwoLines_29 : decode cX5_cardsInTwoLines 29 = .ok (.aload 4, 2) := by decide +kernel
theorem dX5_cardsInTwoLines_31 : decode cX5_cardsInTwoLines 31 = .ok (.arraylength, 1) := by decide +kernel
theorem dX5_cardsInTwoLines_32 : decode cX5_cardsInTwoLines 32 = .ok (.istore 5, 2) := by decide +kernel
theorem dX5_cardsInTwoLines_34 : decode cX5_cardsInTwoLines 34 = .ok (.iconst 0, 1) := by decide +kernel
theorem dX5_cardsInTwoLines_35 : decode cX5_cardsInTwoLines 35 = .ok (.istore 6, 2) := by decide +kernel
theorem dX5_cardsInTwoLines_37 : decode cX5_cardsInTwoLines 37 = .ok (.iload 6, 2) := by decide +kernel
theorem dX5_cardsInTwoLines_39 : decode cX5_cardsInTwoLines 39 = .ok (.iload 5, 2) := by decide +kernel
theorem dX5_cardsInTwoLines_41 : decode cX5_cardsInTwoLines 41 = .ok (.if_icmp .ge 58, 3) := by decide +kernel
theorem dX5_cardsInTwoLines_44 : decode cX5_cardsInTwoLines 44 = .ok (.aload 4, 2) := by decide +kernel
theorem dX5_cardsInTwoLines_46 : decode cX5_cardsInTwoLines 46 = .ok (.iload 6, 2) := by decide +kernel
theorem dX5_cardsInTwoLines_48 : decode cX5_cardsInTwoLines 48 = .ok (.aaload, 1) := by decide +kernel
theorem dX5_cardsInTwoLines_49 : decode cX5_cardsInTwoLines 49 = .ok (.astore 7, 2) := by decide +kernel
theorem dX5_cardsInTwoLines_51 : decode cX5_cardsInTwoLines 51 = .ok (.iload_n 3, 1) := by decide +kernel
theorem dX5_cardsInTwoLines_52 : decode cX5_cardsInTwoLines 52 = .ok (.aload 7, 2) := by decide +kernel
theorem dX5_cardsInTwoLines_54 : decode cX5_cardsInTwoLines 54 = .ok (.getfield 122, 3) := by decide +kernel
theorem dX5_cardsInTwoLines_57 : decode cX5_cardsInTwoLines 57 = .ok (.iload_n 2, 1) := by decide +kernel
theorem dX5_cardsInTwoLines_58 : decode cX5_cardsInTwoLines 58 = .ok (.invokevirtual 126, 3) := by decide +kernel
theorem dX5_cardsInTwoLines_61 : decode cX5_cardsInTwoLines 61 = .ok (.iconst (-1), 1) := by decide +kernel
theorem dX5_cardsInTwoLines_62 : decode cX5_cardsInTwoLines 62 = .ok (.if_icmp .eq 7, 3) := by decide +kernel
theorem dX5_cardsInTwoLines_65 : decode cX5_cardsInTwoLines 65 = .ok (.iconst 1, 1) := by decide +kernel
theorem dX5_cardsInTwoLines_66 : decode cX5_cardsInTwoLines 66 = .ok (.goto 4, 3) := by decide +kernel
theorem dX5_cardsInTwoLines_69 : decode cX5_cardsInTwoLines 69 = .ok (.iconst 0, 1) := by decide +kernel
theorem dX5_cardsInTwoLines_70 : decode cX5_cardsInTwoLines 70 = .ok (.iadd, 1) := by decide +kernel
theorem dX5_cardsInTwoLines_71 : decode cX5_cardsInTwoLines 71 = .ok (.istore_n 3, 1) := by decide +kernel
theorem dX5_cardsInTwoLines_72 : decode cX5_cardsInTwoLines 72 = .ok (.iload_n 3, 1) := by decide +kernel
theorem dX5_cardsInTwoLines_73 : decode cX5_cardsInTwoLines 73 = .ok (.aload 7, 2) := by decide +kernel
theorem dX5_cardsInTwoLines_75 : decode cX5_cardsInTwoLines 75 = .ok (.getfield 131, 3) := by decide +kernel
theorem dX5_cardsInTwoLines_78 : decode cX5_cardsInTwoLines 78 = .ok (.iload_n 2, 1) := by decide +kernel
theorem dX5_cardsInTwoLines_79 : decode cX5_cardsInTwoLines 79 = .ok (.invokevirtual 126, 3) := by decide +kernel
theorem dX5_cardsInTwoLines_82 : decode cX5_cardsInTwoLines 82 = .ok (.iconst (-1), 1) := by decide +kernel
theorem dX5_cardsInTwoLines_83 : decode cX5_cardsInTwoLines 83 = .ok (.if_icmp .eq 7, 3) := by decide +kernel
theorem dX5_cardsInTwoLines_86 : decode cX5_cardsInTwoLines 86 = .ok (.iconst 1, 1) := by decide +kernel
theorem dX5_cardsInTwoLines_87 : decode cX5_cardsInTwoLines 87 = .ok (.goto 4, 3) := by decide +kernel
theorem dX5_cardsInTwoLines_90 : decode cX5_cardsInTwoLines 90 = .ok (.iconst 0, 1) := by decide +kernel
theorem dX5_cardsInTwoLines_91 : decode cX5_cardsInTwoLines 91 = .ok (.iadd, 1) := by decide +kernel
theorem dX5_cardsInTwoLines_92 : decode cX5_cardsInTwoLines 92 = .ok (.istore_n 3, 1) := by decide +kernel
theorem dX5_cardsInTwoLines_93 : decode cX5_cardsInTwoLines 93 = .ok (.iinc 6 1, 3) := by decide +kernel
theorem dX5_cardsInTwoLines_96 : decode cX5_cardsInTwoLines 96 = .ok (.goto (-59), 3) := by decide +kernel
theorem dX5_cardsInTwoLines_99 : decode cX5_cardsInTwoLines 99 = .ok (.iload_n 3, 1) := by decide +kernel
theorem dX5_cardsInTwoLines_100 : decode cX5_cardsInTwoLines 100 = .ok (.iconst 1, 1) := by decide +kernel
theorem dX5_cardsInTwoLines_101 : decode cX5_cardsInTwoLines 101 = .ok (.if_icmp .le 6, 3) := by decide +kernel
theorem dX5_cardsInTwoLines_104 : decode cX5_cardsInTwoLines 104 = .ok (.iinc 1 1, 3) := by decide +kernel
theorem dX5_cardsInTwoLines_107 : decode cX5_cardsInTwoLines 107 = .ok (.iinc 2 1, 3) := by decide +kernel
theorem dX5_cardsInTwoLines_110 : decode cX5_cardsInTwoLines 110 = .ok (.goto (-106), 3) := by decide +kernel
theorem dX5_cardsInTwoLines_113 : decode cX5_cardsInTwoLines 113 = .ok (.iload_n 1, 1) := by decide +kernel
theorem dX5_cardsInTwoLines_114 : decode cX5_cardsInTwoLines 114 = .ok (.ireturn, 1) := by decide +kernel
theorem dX5_peopleNotServed_0 : decode cX5_peopleNotServed 0 = .ok (.iconst 0, 1) := by decide +kernel
theorem dX5_peopleNotServed_1 : decode cX5_peopleNotServed 1 = .ok (.istore_n 1, 1) := by decide +kernel
theorem dX5_peopleNotServed_2 : decode cX5_peopleNotServed 2 = .ok (.aload_n 0, 1) := by decide +kernel
theorem dX5_peopleNotServed_3 : decode cX5_peopleNotServed 3 = .ok (.getfield 11, 3) := by decide +kernel
theorem dX5_peopleNotServed_6 : decode cX5_peopleNotServed 6 = .ok (.astore_n 2, 1) := by decide +kernel
theorem dX5_peopleNotServed_7 : decode cX5_peopleNotServed 7 = .ok (.aload_n 2, 1) := by decide +kernel
theorem dX5_peopleNotServed_8 : decode cX5_peopleNotServed 8 = .ok (.arraylength, 1) := by decide +kernel
theorem dX5_peopleNotServed_9 : decode cX5_peopleNotServed 9 = .ok (.istore_n 3, 1) := by decide +kernel
theorem dX5_peopleNotServed_10 : decode cX5_peopleNotServed 10 = .ok (.iconst 0, 1) := by decide +kernel
theorem dX5_peopleNotServed_11 : decode cX5_peopleNotServed 11 = .ok (.istore 4, 2) := by decide +kernel
theorem dX5_peopleNotServed_13 : decode cX5_peopleNotServed 13 = .ok (.iload 4, 2) := by decide +kernel
theorem dX5_peopleNotServed_15 : decode cX5_peopleNotServed 15 = .ok (.iload_n 3, 1) := by decide +kernel
theorem dX5_peopleNotServed_16 : decode cX5_peopleNotServed 16 = .ok (.if_icmp .ge 28, 3) := by decide +kernel
theorem dX5_peopleNotServed_19 : decode cX5_peopleNotServed 19 = .ok (.aload_n 2, 1) := by decide +kernel
theorem dX5_peopleNotServed_20 : decode cX5_peopleNotServed 20 = .ok (.iload 4, 2) := by decide +kernel
theorem dX5_peopleNotServed_22 : decode cX5_peopleNotServed 22 = .ok (.aaload, 1) := by decide +kernel
theorem dX5_peopleNotServed_23 : decode cX5_peopleNotServed 23 = .ok (.astore 5, 2) := by decide +kernel
theorem dX5_peopleNotServed_25 : decode cX5_peopleNotServed 25 = .ok (.iload_n 1, 1) := by decide +kernel
theorem dX5_peopleNotServed_26 : decode cX5_peopleNotServed 26 = .ok (.aload 5, 2) := by decide +kernel
theorem dX5_peopleNotServed_28 : decode cX5_peopleNotServed 28 = .ok (.aload 5, 2) := by decide +kernel
theorem dX5_peopleNotServed_30 : decode cX5_peopleNotServed 30 = .ok (.getfield 75, 3) := by decide +kernel
theorem dX5_peopleNotServed_33 : decode cX5_peopleNotServed 33 = .ok (.invokevirtual 150, 3) := by decide +kernel
theorem dX5_peopleNotServed_36 : decode cX5_peopleNotServed 36 = .ok (.iadd, 1) := by decide +kernel
theorem dX5_peopleNotServed_37 : decode cX5_peopleNotServed 37 = .ok (.istore_n 1, 1) := by decide +kernel
theorem dX5_peopleNotServed_38 : decode cX5_peopleNotServed 38 = .ok (.iinc 4 1, 3) := by decide +kernel
theorem dX5_peopleNotServed_41 : decode cX5_peopleNotServed 41 = .ok (.goto (-28), 3) := by decide +kernel
theorem dX5_peopleNotServed_44 : decode cX5_peopleNotServed 44 = .ok (.iload_n 1, 1) := by decide +kernel
theorem dX5_peopleNotServed_45 : decode cX5_peopleNotServed 45 = .ok (.ireturn, 1) := by decide +kernel
theorem dX5_gatesAheadOf_0 : decode cX5_gatesAheadOf 0 = .ok (.aload_n 0, 1) := by decide +kernel
theorem dX5_gatesAheadOf_1 : decode cX5_gatesAheadOf 1 = .ok (.iload_n 1, 1) := by decide +kernel
theorem dX5_gatesAheadOf_2 : decode cX5_gatesAheadOf 2 = .ok (.invokevirtual 134, 3) := by decide +kernel
theorem dX5_gatesAheadOf_5 : decode cX5_gatesAheadOf 5 = .ok (.ifCond .ne 5, 3) := by decide +kernel
theorem dX5_gatesAheadOf_8 : decode cX5_gatesAheadOf 8 = .ok (.iconst (-1), 1) := by decide +kernel
theorem dX5_gatesAheadOf_9 : decode cX5_gatesAheadOf 9 = .ok (.ireturn, 1) := by decide +kernel
theorem dX5_gatesAheadOf_10 : decode cX5_gatesAheadOf 10 = .ok (.aload_n 0, 1) := by decide +kernel
theorem dX5_gatesAheadOf_11 : decode cX5_gatesAheadOf 11 = .ok (.getfield 11, 3) := by decide +kernel
theorem dX5_gatesAheadOf_14 : decode cX5_gatesAheadOf 14 = .ok (.iload_n 1, 1) := by decide +kernel
theorem dX5_gatesAheadOf_15 : decode cX5_gatesAheadOf 15 = .ok (.aaload, 1) := by decide +kernel
theorem dX5_gatesAheadOf_16 : decode cX5_gatesAheadOf 16 = .ok (.invokevirtual 141, 3) := by decide +kernel
theorem dX5_gatesAheadOf_19 : decode cX5_gatesAheadOf 19 = .ok (.istore_n 2, 1) := by decide +kernel
theorem dX5_gatesAheadOf_20 : decode cX5_gatesAheadOf 20 = .ok (.iconst 0, 1) := by decide +kernel
theorem dX5_gatesAheadOf_21 : decode cX5_gatesAheadOf 21 = .ok (.istore_n 3, 1) := by decide +kernel
theorem dX5_gatesAheadOf_22 : decode cX5_gatesAheadOf 22 = .ok (.iconst 0, 1) := by decide +kernel
theorem dX5_gatesAheadOf_23 : decode cX5_gatesAheadOf 23 = .ok (.istore 4, 2) := by decide +kernel
theorem dX5_gatesAheadOf_25 : decode cX5_gatesAheadOf 25 = .ok (.iload 4, 2) := by decide +kernel
theorem dX5_gatesAheadOf_27 : decode cX5_gatesAheadOf 27 = .ok (.aload_n 0, 1) := by decide +kernel
theorem dX5_gatesAheadOf_28 : decode cX5_gatesAheadOf 28 = .ok (.getfield 39, 3) := by decide +kernel
theorem dX5_gatesAheadOf_31 : decode cX5_gatesAheadOf 31 = .ok (.if_icmp .ge 52, 3) := by decide +kernel
theorem dX5_gatesAheadOf_34 : decode cX5_gatesAheadOf 34 = .ok (.iload 4, 2) := by decide +kernel
theorem dX5_gatesAheadOf_36 : decode cX5_gatesAheadOf 36 = .ok (.aload_n 0, 1) := by decide +kernel
theorem dX5_gatesAheadOf_37 : decode cX5_gatesAheadOf 37 = .ok (.getfield 11, 3) := by decide +kernel
theorem dX5_gatesAheadOf_40 : decode cX5_gatesAheadOf 40 = .ok (.arraylength, 1) := by decide +kernel
theorem dX5_gatesAheadOf_41 : decode cX5_gatesAheadOf 41 = .ok (.if_icmp .ge 42, 3) := by decide +kernel
theorem dX5_gatesAheadOf_44 : decode cX5_gatesAheadOf 44 = .ok (.aload_n 0, 1) := by decide +kernel
theorem dX5_gatesAheadOf_45 : decode cX5_gatesAheadOf 45 = .ok (.getfield 11, 3) := by decide +kernel
theorem dX5_gatesAheadOf_48 : decode cX5_gatesAheadOf 48 = .ok (.iload 4, 2) := by decide +kernel
theorem dX5_gatesAheadOf_50 : decode cX5_gatesAheadOf 50 = .ok (.aaload, 1) := by decide +kernel
theorem dX5_gatesAheadOf_51 : decode cX5_gatesAheadOf 51 = .ok (.invokevirtual 141, 3) := by decide +kernel
theorem dX5_gatesAheadOf_54 : decode cX5_gatesAheadOf 54 = .ok (.istore 5, 2) := by decide +kernel
theorem dX5_gatesAheadOf_56 : decode cX5_gatesAheadOf 56 = .ok (.iload 5, 2) := by decide +kernel
theorem dX5_gatesAheadOf_58 : decode cX5_gatesAheadOf 58 = .ok (.iload_n 2, 1) := by decide +kernel
theorem dX5_gatesAheadOf_59 : decode cX5_gatesAheadOf 59 = .ok (.if_icmp .gt 15, 3) := by decide +kernel
theorem dX5_gatesAheadOf_62 : decode cX5_gatesAheadOf 62 = .ok (.iload 5, 2) := by decide +kernel
theorem dX5_gatesAheadOf_64 : decode cX5_gatesAheadOf 64 = .ok (.iload_n 2, 1) := by decide +kernel
theorem dX5_gatesAheadOf_65 : decode cX5_gatesAheadOf 65 = .ok (.if_icmp .ne 12, 3) := by decide +kernel
theorem dX5_gatesAheadOf_68 : decode cX5_gatesAheadOf 68 = .ok (.iload 4, 2) := by decide +kernel
theorem dX5_gatesAheadOf_70 : decode cX5_gatesAheadOf 70 = .ok (.iload_n 1, 1) := by decide +kernel
theorem dX5_gatesAheadOf_71 : decode cX5_gatesAheadOf 71 = .ok (.if_icmp .ge 6, 3) := by decide +kernel
theorem dX5_gatesAheadOf_74 : decode cX5_gatesAheadOf 74 = .ok (.iinc 3 1, 3) := by decide +kernel
theorem dX5_gatesAheadOf_77 : decode cX5_gatesAheadOf 77 = .ok (.iinc 4 1, 3) := by decide +kernel
theorem dX5_gatesAheadOf_80 : decode cX5_gatesAheadOf 80 = .ok (.goto (-55), 3) := by decide +kernel
theorem dX5_gatesAheadOf_83 : decode cX5_gatesAheadOf 83 = .ok (.iload_n 3, 1) := by decide +kernel
theorem dX5_gatesAheadOf_84 : decode cX5_gatesAheadOf 84 = .ok (.ireturn, 1) := by decide +kernel
theorem dX5_reasonNotToJoin_0 : decode cX5_reasonNotToJoin 0 = .ok (.aload_n 1, 1) := by decide +kernel
theorem dX5_reasonNotToJoin_1 : decode cX5_reasonNotToJoin 1 = .ok (.iload_n 2, 1) := by decide +kernel
theorem dX5_reasonNotToJoin_2 : decode cX5_reasonNotToJoin 2 = .ok (.invokevirtual 153, 3) := by decide +kernel
theorem dX5_reasonNotToJoin_5 : decode cX5_reasonNotToJoin 5 = .ok (.ifCond .ne 5, 3) := by decide +kernel
theorem dX5_reasonNotToJoin_8 : decode cX5_reasonNotToJoin 8 = .ok (.iconst 1, 1) := by decide +kernel
theorem dX5_reasonNotToJoin_9 : decode cX5_reasonNotToJoin 9 = .ok (.ireturn, 1) := by decide +kernel
theorem dX5_reasonNotToJoin_10 : decode cX5_reasonNotToJoin 10 = .ok (.aload_n 1, 1) := by decide +kernel
theorem dX5_reasonNotToJoin_11 : decode cX5_reasonNotToJoin 11 = .ok (.iload_n 2, 1) := by decide +kernel
theorem dX5_reasonNotToJoin_12 : decode cX5_reasonNotToJoin 12 = .ok (.invokevirtual 137, 3) := by decide +kernel
theorem dX5_reasonNotToJoin_15 : decode cX5_reasonNotToJoin 15 = .ok (.invokevirtual 156, 3) := by decide +kernel
theorem dX5_reasonNotToJoin_18 : decode cX5_reasonNotToJoin 18 = .ok (.ifCond .eq 5, 3) := by decide +kernel
theorem dX5_reasonNotToJoin_21 : decode cX5_reasonNotToJoin 21 = .ok (.iconst 2, 1) := by decide +kernel
theorem dX5_reasonNotToJoin_22 : decode cX5_reasonNotToJoin 22 = .ok (.ireturn, 1) := by decide +kernel
theorem dX5_reasonNotToJoin_23 : decode cX5_reasonNotToJoin 23 = .ok (.iload_n 3, 1) := by decide +kernel
theorem dX5_reasonNotToJoin_24 : decode cX5_reasonNotToJoin 24 = .ok (.iconst (-1), 1) := by decide +kernel
theorem dX5_reasonNotToJoin_25 : decode cX5_reasonNotToJoin 25 = .ok (.if_icmp .eq 14, 3) := by decide +kernel
theorem dX5_reasonNotToJoin_28 : decode cX5_reasonNotToJoin 28 = .ok (.aload_n 0, 1) := by decide +kernel
theorem dX5_reasonNotToJoin_29 : decode cX5_reasonNotToJoin 29 = .ok (.iload_n 3, 1) := by decide +kernel
theorem dX5_reasonNotToJoin_30 : decode cX5_reasonNotToJoin 30 = .ok (.invokevirtual 109, 3) := by decide +kernel
theorem dX5_reasonNotToJoin_33 : decode cX5_reasonNotToJoin 33 = .ok (.iconst (-1), 1) := by decide +kernel
theorem dX5_reasonNotToJoin_34 : decode cX5_reasonNotToJoin 34 = .ok (.if_icmp .eq 5, 3) := by decide +kernel
theorem dX5_reasonNotToJoin_37 : decode cX5_reasonNotToJoin 37 = .ok (.iconst 3, 1) := by decide +kernel
theorem dX5_reasonNotToJoin_38 : decode cX5_reasonNotToJoin 38 = .ok (.ireturn, 1) := by decide +kernel
theorem dX5_reasonNotToJoin_39 : decode cX5_reasonNotToJoin 39 = .ok (.iload_n 2, 1) := by decide +kernel
theorem dX5_reasonNotToJoin_40 : decode cX5_reasonNotToJoin 40 = .ok (.iconst 1, 1) := by decide +kernel
theorem dX5_reasonNotToJoin_41 : decode cX5_reasonNotToJoin 41 = .ok (.if_icmp .ne 16, 3) := by decide +kernel
theorem dX5_reasonNotToJoin_44 : decode cX5_reasonNotToJoin 44 = .ok (.aload_n 0, 1) := by decide +kernel
theorem dX5_reasonNotToJoin_45 : decode cX5_reasonNotToJoin 45 = .ok (.invokevirtual 159, 3) := by decide +kernel
theorem dX5_reasonNotToJoin_48 : decode cX5_reasonNotToJoin 48 = .ok (.aload_n 0, 1) := by decide +kernel
theorem dX5_reasonNotToJoin_49 : decode cX5_reasonNotToJoin 49 = .ok (.getfield 51, 3) := by decide +kernel
theorem dX5_reasonNotToJoin_52 : decode cX5_reasonNotToJoin 52 = .ok (.if_icmp .lt 5, 3) := by decide +kernel
theorem dX5_reasonNotToJoin_55 : decode cX5_reasonNotToJoin 55 = .ok (.iconst 4, 1) := by decide +kernel
theorem dX5_reasonNotToJoin_56 : decode cX5_reasonNotToJoin 56 = .ok (.ireturn, 1) := by decide +kernel
theorem dX5_reasonNotToJoin_57 : decode cX5_reasonNotToJoin 57 = .ok (.iconst 0, 1) := by decide +kernel
theorem dX5_reasonNotToJoin_58 : decode cX5_reasonNotToJoin 58 = .ok (.ireturn, 1) := by decide +kernel
theorem dX5_turnedKeys_0 : decode cX5_turnedKeys 0 = .ok (.aload_n 0, 1) := by decide +kernel
theorem dX5_turnedKeys_1 : decode cX5_turnedKeys 1 = .ok (.getfield 45, 3) := by decide +kernel
theorem dX5_turnedKeys_4 : decode cX5_turnedKeys 4 = .ok (.invokestatic 162, 3) := by decide +kernel
theorem dX5_turnedKeys_7 : decode cX5_turnedKeys 7 = .ok (.ireturn, 1) := by decide +kernel
theorem dX5_isPanic_0 : decode cX5_isPanic 0 = .ok (.aload_n 0, 1) := by decide +kernel
theorem dX5_isPanic_1 : decode cX5_isPanic 1 = .ok (.invokevirtual 92, 3) := by decide +kernel
theorem dX5_isPanic_4 : decode cX5_isPanic 4 = .ok (.iconst 2, 1) := by decide +kernel
theorem dX5_isPanic_5 : decode cX5_isPanic 5 = .ok (.if_icmp .lt 7, 3) := by decide +kernel
theorem dX5_isPanic_8 : decode cX5_isPanic 8 = .ok (.iconst 1, 1) := by decide +kernel
theorem dX5_isPanic_9 : decode cX5_isPanic 9 = .ok (.goto 4, 3) := by decide +kernel
theorem dX5_isPanic_12 : decode cX5_isPanic 12 = .ok (.iconst 0, 1) := by decide +kernel
theorem dX5_isPanic_13 : decode cX5_isPanic 13 = .ok (.ireturn, 1) := by decide +kernel
theorem dX5_turnKey_0 : decode cX5_turnKey 0 = .ok (.aload_n 0, 1) := by decide +kernel
theorem dX5_turnKey_1 : decode cX5_turnKey 1 = .ok (.aload_n 0, 1) := by decide +kernel
theorem dX5_turnKey_2 : decode cX5_turnKey 2 = .ok (.getfield 45, 3) := by decide +kernel
theorem dX5_turnKey_5 : decode cX5_turnKey 5 = .ok (.iconst 1, 1) := by decide +kernel
theorem dX5_turnKey_6 : decode cX5_turnKey 6 = .ok (.iload_n 1, 1) := by decide +kernel
theorem dX5_turnKey_7 : decode cX5_turnKey 7 = .ok (.ishl, 1) := by decide +kernel
theorem dX5_turnKey_8 : decode cX5_turnKey 8 = .ok (.ixor, 1) := by decide +kernel
theorem dX5_turnKey_9 : decode cX5_turnKey 9 = .ok (.putfield 45, 3) := by decide +kernel
theorem dX5_turnKey_12 : decode cX5_turnKey 12 = .ok (.aload_n 0, 1) := by decide +kernel
theorem dX5_turnKey_13 : decode cX5_turnKey 13 = .ok (.invokevirtual 88, 3) := by decide +kernel
theorem dX5_turnKey_16 : decode cX5_turnKey 16 = .ok (.ifCond .eq 37, 3) := by decide +kernel
theorem dX5_turnKey_19 : decode cX5_turnKey 19 = .ok (.aload_n 0, 1) := by decide +kernel
theorem dX5_turnKey_20 : decode cX5_turnKey 20 = .ok (.getfield 11, 3) := by decide +kernel
theorem dX5_turnKey_23 : decode cX5_turnKey 23 = .ok (.astore_n 2, 1) := by decide +kernel
theorem dX5_turnKey_24 : decode cX5_turnKey 24 = .ok (.aload_n 2, 1) := by decide +kernel
theorem dX5_turnKey_25 : decode cX5_turnKey 25 = .ok (.arraylength, 1) := by decide +kernel
theorem dX5_turnKey_26 : decode cX5_turnKey 26 = .ok (.istore_n 3, 1) := by decide +kernel
theorem dX5_turnKey_27 : decode cX5_turnKey 27 = .ok (.iconst 0, 1) := by decide +kernel
theorem dX5_turnKey_28 : decode cX5_turnKey 28 = .ok (.istore 4, 2) := by decide +kernel
theorem dX5_turnKey_30 : decode cX5_turnKey 30 = .ok (.iload 4, 2) := by decide +kernel
theorem dX5_turnKey_32 : decode cX5_turnKey 32 = .ok (.iload_n 3, 1) := by decide +kernel
theorem dX5_turnKey_33 : decode cX5_turnKey 33 = .ok (.if_icmp .ge 20, 3) := by decide +kernel
theorem dX5_turnKey_36 : decode cX5_turnKey 36 = .ok (.aload_n 2, 1) := by decide +kernel
theorem dX5_turnKey_37 : decode cX5_turnKey 37 = .ok (.iload 4, 2) := by decide +kernel
theorem dX5_turnKey_39 : decode cX5_turnKey 39 = .ok (.aaload, 1) := by decide +kernel
theorem dX5_turnKey_40 : decode cX5_turnKey 40 = .ok (.astore 5, 2) := by decide +kernel
theorem dX5_turnKey_42 : decode cX5_turnKey 42 = .ok (.aload 5, 2) := by decide +kernel
theorem dX5_turnKey_44 : decode cX5_turnKey 44 = .ok (.invokevirtual 167, 3) := by decide +kernel
theorem dX5_turnKey_47 : decode cX5_turnKey 47 = .ok (.iinc 4 1, 3) := by decide +kernel
theorem dX5_turnKey_50 : decode cX5_turnKey 50 = .ok (.goto (-20), 3) := by decide +kernel
theorem dX5_turnKey_53 : decode cX5_turnKey 53 = .ok (.return_, 1) := by decide +kernel
theorem dX5_passTicks_0 : decode cX5_passTicks 0 = .ok (.iconst 0, 1) := by decide +kernel
theorem dX5_passTicks_1 : decode cX5_passTicks 1 = .ok (.istore_n 2, 1) := by decide +kernel
theorem dX5_passTicks_2 : decode cX5_passTicks 2 = .ok (.iload_n 2, 1) := by decide +kernel
theorem dX5_passTicks_3 : decode cX5_passTicks 3 = .ok (.iload_n 1, 1) := by decide +kernel
theorem dX5_passTicks_4 : decode cX5_passTicks 4 = .ok (.if_icmp .ge 92, 3) := by decide +kernel
theorem dX5_passTicks_7 : decode cX5_passTicks 7 = .ok (.aload_n 0, 1) := by decide +kernel
theorem dX5_passTicks_8 : decode cX5_passTicks 8 = .ok (.getfield 11, 3) := by decide +kernel
theorem dX5_passTicks_11 : decode cX5_passTicks 11 = .ok (.astore_n 3, 1) := by decide +kernel
theorem dX5_passTicks_12 : decode cX5_passTicks 12 = .ok (.aload_n 3, 1) := by decide +kernel
theorem dX5_passTicks_13 : decode cX5_passTicks 13 = .ok (.arraylength, 1) := by decide +kernel
theorem dX5_passTicks_14 : decode cX5_passTicks 14 = .ok (.istore 4, 2) := by decide +kernel
theorem dX5_passTicks_16 : decode cX5_passTicks 16 = .ok (.iconst 0, 1) := by decide +kernel
theorem dX5_passTicks_17 : decode cX5_passTicks 17 = .ok (.istore 5, 2) := by decide +kernel
theorem dX5_passTicks_19 : decode cX5_passTicks 19 = .ok (.iload 5, 2) := by decide +kernel
theorem dX5_passTicks_21 : decode cX5_passTicks 21 = .ok (.iload 4, 2) := by decide +kernel
theorem dX5_passTicks_23 : decode cX5_passTicks 23 = .ok (.if_icmp .ge 57, 3) := by decide +kernel
theorem dX5_passTicks_26 : decode cX5_passTicks 26 = .ok (.aload_n 3, 1) := by decide +kernel
theorem dX5_passTicks_27 : decode cX5_passTicks 27 = .ok (.iload 5, 2) := by decide +kernel
theorem dX5_passTicks_29 : decode cX5_passTicks 29 = .ok (.aaload, 1) := by decide +kernel
theorem dX5_passTicks_30 : decode cX5_passTicks 30 = .ok (.astore 6, 2) := by decide +kernel
theorem dX5_passTicks_32 : decode cX5_passTicks 32 = .ok (.aload_n 0, 1) := by decide +kernel
theorem dX5_passTicks_33 : decode cX5_passTicks 33 = .ok (.invokevirtual 88, 3) := by decide +kernel
theorem dX5_passTicks_36 : decode cX5_passTicks 36 = .ok (.ifCond .eq 15, 3) := by decide +kernel
theorem dX5_passTicks_39 : decode cX5_passTicks 39 = .ok (.aload_n 0, 1) := by decide +kernel
theorem dX5_passTicks_40 : decode cX5_passTicks 40 = .ok (.aload 6, 2) := by decide +kernel
theorem dX5_passTicks_42 : decode cX5_passTicks 42 = .ok (.getfield 131, 3) := by decide +kernel
theorem dX5_passTicks_45 : decode cX5_passTicks 45 = .ok (.invokevirtual 170, 3) := by decide +kernel
theorem dX5_passTicks_48 : decode cX5_passTicks 48 = .ok (.goto 26, 3) := by decide +kernel
theorem dX5_passTicks_51 : decode cX5_passTicks 51 = .ok (.aload 6, 2) := by decide +kernel
theorem dX5_passTicks_53 : decode cX5_passTicks 53 = .ok (.invokevirtual 147, 3) := by decide +kernel
theorem dX5_passTicks_56 : decode cX5_passTicks 56 = .ok (.ifCond .eq 12, 3) := by decide +kernel
theorem dX5_passTicks_59 : decode cX5_passTicks 59 = .ok (.aload_n 0, 1) := by decide +kernel
theorem dX5_passTicks_60 : decode cX5_passTicks 60 = .ok (.aload 6, 2) := by decide +kernel
theorem dX5_passTicks_62 : decode cX5_passTicks 62 = .ok (.invokevirtual 174, 3) := by decide +kernel
theorem dX5_passTicks_65 : decode cX5_passTicks 65 = .ok (.goto 9, 3) := by decide +kernel
theorem dX5_passTicks_68 : decode cX5_passTicks 68 = .ok (.aload_n 0, 1) := by decide +kernel
theorem dX5_passTicks_69 : decode cX5_passTicks 69 = .ok (.aload 6, 2) := by decide +kernel
theorem dX5_passTicks_71 : decode cX5_passTicks 71 = .ok (.invokevirtual 177, 3) := by decide +kernel
theorem dX5_passTicks_74 : decode cX5_passTicks 74 = .ok (.iinc 5 1, 3) := by decide +kernel
theorem dX5_passTicks_77 : decode cX5_passTicks 77 = .ok (.goto (-58), 3) := by decide +kernel
theorem dX5_passTicks_80 : decode cX5_passTicks 80 = .ok (.aload_n 0, 1) := by decide +kernel
theorem dX5_passTicks_81 : decode cX5_passTicks 81 = .ok (.dup, 1) := by decide +kernel
theorem dX5_passTicks_82 : decode cX5_passTicks 82 = .ok (.getfield 48, 3) := by decide +kernel
theorem dX5_passTicks_85 : decode cX5_passTicks 85 = .ok (.iconst 1, 1) := by decide +kernel
theorem dX5_passTicks_86 : decode cX5_passTicks 86 = .ok (.iadd, 1) := by decide +kernel
theorem dX5_passTicks_87 : decode cX5_passTicks 87 = .ok (.putfield 48, 3) := by decide +kernel
theorem dX5_passTicks_90 : decode cX5_passTicks 90 = .ok (.iinc 2 1, 3) := by decide +kernel
theorem dX5_passTicks_93 : decode cX5_passTicks 93 = .ok (.goto (-91), 3) := by decide +kernel
theorem dX5_passTicks_96 : decode cX5_passTicks 96 = .ok (.return_, 1) := by decide +kernel
theorem dX5_letOutInPanic_0 : decode cX5_letOutInPanic 0 = .ok (.iconst 0, 1) := by decide +kernel
theorem dX5_letOutInPanic_1 : decode cX5_letOutInPanic 1 = .ok (.istore_n 2, 1) := by decide +kernel
theorem dX5_letOutInPanic_2 : decode cX5_letOutInPanic 2 = .ok (.iload_n 2, 1) := by decide +kernel
theorem dX5_letOutInPanic_3 : decode cX5_letOutInPanic 3 = .ok (.aload_n 0, 1) := by decide +kernel
theorem dX5_letOutInPanic_4 : decode cX5_letOutInPanic 4 = .ok (.getfield 27, 3) := by decide +kernel
theorem dX5_letOutInPanic_7 : decode cX5_letOutInPanic 7 = .ok (.if_icmp .ge 36, 3) := by decide +kernel
theorem dX5_letOutInPanic_10 : decode cX5_letOutInPanic 10 = .ok (.aload_n 1, 1) := by decide +kernel
theorem dX5_letOutInPanic_11 : decode cX5_letOutInPanic 11 = .ok (.getfield 144, 3) := by decide +kernel
theorem dX5_letOutInPanic_14 : decode cX5_letOutInPanic 14 = .ok (.ifCond .le 29, 3) := by decide +kernel
theorem dX5_letOutInPanic_17 : decode cX5_letOutInPanic 17 = .ok (.aload_n 0, 1) := by decide +kernel
theorem dX5_letOutInPanic_18 : decode cX5_letOutInPanic 18 = .ok (.aload_n 1, 1) := by decide +kernel
theorem dX5_letOutInPanic_19 : decode cX5_letOutInPanic 19 = .ok (.iconst 0, 1) := by decide +kernel
theorem dX5_letOutInPanic_20 : decode cX5_letOutInPanic 20 = .ok (.invokevirtual 180, 3) := by decide +kernel
theorem dX5_letOutInPanic_23 : decode cX5_letOutInPanic 23 = .ok (.iconst 1, 1) := by decide +kernel
theorem dX5_letOutInPanic_24 : decode cX5_letOutInPanic 24 = .ok (.invokevirtual 183, 3) := by decide +kernel
theorem dX5_letOutInPanic_27 : decode cX5_letOutInPanic 27 = .ok (.aload_n 0, 1) := by decide +kernel
theorem dX5_letOutInPanic_28 : decode cX5_letOutInPanic 28 = .ok (.dup, 1) := by decide +kernel
theorem dX5_letOutInPanic_29 : decode cX5_letOutInPanic 29 = .ok (.getfield 72, 3) := by decide +kernel
theorem dX5_letOutInPanic_32 : decode cX5_letOutInPanic 32 = .ok (.iconst 1, 1) := by decide +kernel
theorem dX5_letOutInPanic_33 : decode cX5_letOutInPanic 33 = .ok (.iadd, 1) := by decide +kernel
theorem dX5_letOutInPanic_34 : decode cX5_letOutInPanic 34 = .ok (.putfield 72, 3) := by decide +kernel
theorem dX5_letOutInPanic_37 : decode cX5_letOutInPanic 37 = .ok (.iinc 2 1, 3) := by decide +kernel
theorem dX5_letOutInPanic_40 : decode cX5_letOutInPanic 40 = .ok (.goto (-38), 3) := by decide +kernel
theorem dX5_letOutInPanic_43 : decode cX5_letOutInPanic 43 = .ok (.return_, 1) := by decide +kernel
theorem dX5_letThroughPaddles_0 : decode cX5_letThroughPaddles 0 = .ok (.aload_n 1, 1) := by decide +kernel
theorem dX5_letThroughPaddles_1 : decode cX5_letThroughPaddles 1 = .ok (.aload_n 1, 1) := by decide +kernel
theorem dX5_letThroughPaddles_2 : decode cX5_letThroughPaddles 2 = .ok (.getfield 187, 3) := by decide +kernel
theorem dX5_letThroughPaddles_5 : decode cX5_letThroughPaddles 5 = .ok (.invokevirtual 137, 3) := by decide +kernel
theorem dX5_letThroughPaddles_8 : decode cX5_letThroughPaddles 8 = .ok (.astore_n 2, 1) := by decide +kernel
theorem dX5_letThroughPaddles_9 : decode cX5_letThroughPaddles 9 = .ok (.aload_n 1, 1) := by decide +kernel
theorem dX5_letThroughPaddles_10 : decode cX5_letThroughPaddles 10 = .ok (.getfield 190, 3) := by decide +kernel
theorem dX5_letThroughPaddles_13 : decode cX5_letThroughPaddles 13 = .ok (.ifCond .eq 24, 3) := by decide +kernel
theorem dX5_letThroughPaddles_16 : decode cX5_letThroughPaddles 16 = .ok (.aload_n 1, 1) := by decide +kernel
theorem dX5_letThroughPaddles_17 : decode cX5_letThroughPaddles 17 = .ok (.iconst 0, 1) := by decide +kernel
theorem dX5_letThroughPaddles_18 : decode cX5_letThroughPaddles 18 = .ok (.putfield 190, 3) := by decide +kernel
theorem dX5_letThroughPaddles_21 : decode cX5_letThroughPaddles 21 = .ok (.aload_n 0, 1) := by decide +kernel
theorem dX5_letThroughPaddles_22 : decode cX5_letThroughPaddles 22 = .ok (.aload_n 2, 1) := by decide +kernel
theorem dX5_letThroughPaddles_23 : decode cX5_letThroughPaddles 23 = .ok (.iconst 0, 1) := by decide +kernel
theorem dX5_letThroughPaddles_24 : decode cX5_letThroughPaddles 24 = .ok (.invokevirtual 180, 3) := by decide +kernel
theorem dX5_letThroughPaddles_27 : decode cX5_letThroughPaddles 27 = .ok (.aload_n 1, 1) := by decide +kernel
theorem dX5_letThroughPaddles_28 : decode cX5_letThroughPaddles 28 = .ok (.getfield 187, 3) := by decide +kernel
theorem dX5_letThroughPaddles_31 : decode cX5_letThroughPaddles 31 = .ok (.invokevirtual 183, 3) := by decide +kernel
theorem dX5_letThroughPaddles_34 : decode cX5_letThroughPaddles 34 = .ok (.goto 43, 3) := by decide +kernel
theorem dX5_letThroughPaddles_37 : decode cX5_letThroughPaddles 37 = .ok (.aload_n 2, 1) := by decide +kernel
theorem dX5_letThroughPaddles_38 : decode cX5_letThroughPaddles 38 = .ok (.invokevirtual 193, 3) := by decide +kernel
theorem dX5_letThroughPaddles_41 : decode cX5_letThroughPaddles 41 = .ok (.ifCond .eq 36, 3) := by decide +kernel
theorem dX5_letThroughPaddles_44 : decode cX5_letThroughPaddles 44 = .ok (.aload_n 0, 1) := by decide +kernel
theorem dX5_letThroughPaddles_45 : decode cX5_letThroughPaddles 45 = .ok (.aload_n 2, 1) := by decide +kernel
theorem dX5_letThroughPaddles_46 : decode cX5_letThroughPaddles 46 = .ok (.iconst 0, 1) := by decide +kernel
theorem dX5_letThroughPaddles_47 : decode cX5_letThroughPaddles 47 = .ok (.invokevirtual 180, 3) := by decide +kernel
theorem dX5_letThroughPaddles_50 : decode cX5_letThroughPaddles 50 = .ok (.aload_n 1, 1) := by decide +kernel
theorem dX5_letThroughPaddles_51 : decode cX5_letThroughPaddles 51 = .ok (.getfield 187, 3) := by decide +kernel
theorem dX5_letThroughPaddles_54 : decode cX5_letThroughPaddles 54 = .ok (.invokevirtual 183, 3) := by decide +kernel
theorem dX5_letThroughPaddles_57 : decode cX5_letThroughPaddles 57 = .ok (.aload_n 0, 1) := by decide +kernel
theorem dX5_letThroughPaddles_58 : decode cX5_letThroughPaddles 58 = .ok (.dup, 1) := by decide +kernel
theorem dX5_letThroughPaddles_59 : decode cX5_letThroughPaddles 59 = .ok (.getfield 60, 3) := by decide +kernel
theorem dX5_letThroughPaddles_62 : decode cX5_letThroughPaddles 62 = .ok (.iconst 1, 1) := by decide +kernel
theorem dX5_letThroughPaddles_63 : decode cX5_letThroughPaddles 63 = .ok (.iadd, 1) := by decide +kernel
theorem dX5_letThroughPaddles_64 : decode cX5_letThroughPaddles 64 = .ok (.putfield 60, 3) := by decide +kernel
theorem dX5_letThroughPaddles_67 : decode cX5_letThroughPaddles 67 = .ok (.aload_n 1, 1) := by decide +kernel
theorem dX5_letThroughPaddles_68 : decode cX5_letThroughPaddles 68 = .ok (.dup, 1) := by decide +kernel
theorem dX5_letThroughPaddles_69 : decode cX5_letThroughPaddles 69 = .ok (.getfield 196, 3) := by decide +kernel
theorem dX5_letThroughPaddles_72 : decode cX5_letThroughPaddles 72 = .ok (.iconst 1, 1) := by decide +kernel
theorem dX5_letThroughPaddles_73 : decode cX5_letThroughPaddles 73 = .ok (.iadd, 1) := by decide +kernel
theorem dX5_letThroughPaddles_74 : decode cX5_letThroughPaddles 74 = .ok (.putfield 196, 3) := by decide +kernel
theorem dX5_letThroughPaddles_77 : decode cX5_letThroughPaddles 77 = .ok (.aload_n 1, 1) := by decide +kernel
theorem dX5_letThroughPaddles_78 : decode cX5_letThroughPaddles 78 = .ok (.dup, 1) := by decide +kernel
theorem dX5_letThroughPaddles_79 : decode cX5_letThroughPaddles 79 = .ok (.getfield 199, 3) := by decide +kernel
theorem dX5_letThroughPaddles_82 : decode cX5_letThroughPaddles 82 = .ok (.iconst 1, 1) := by decide +kernel
theorem dX5_letThroughPaddles_83 : decode cX5_letThroughPaddles 83 = .ok (.isub, 1) := by decide +kernel
theorem dX5_letThroughPaddles_84 : decode cX5_letThroughPaddles 84 = .ok (.putfield 199, 3) := by decide +kernel
theorem dX5_letThroughPaddles_87 : decode cX5_letThroughPaddles 87 = .ok (.aload_n 1, 1) := by decide +kernel
theorem dX5_letThroughPaddles_88 : decode cX5_letThroughPaddles 88 = .ok (.getfield 199, 3) := by decide +kernel
theorem dX5_letThroughPaddles_91 : decode cX5_letThroughPaddles 91 = .ok (.ifCond .ne 7, 3) := by decide +kernel
theorem dX5_letThroughPaddles_94 : decode cX5_letThroughPaddles 94 = .ok (.aload_n 1, 1) := by decide +kernel
theorem dX5_letThroughPaddles_95 : decode cX5_letThroughPaddles 95 = .ok (.invokevirtual 167, 3) := by decide +kernel
theorem dX5_letThroughPaddles_98 : decode cX5_letThroughPaddles 98 = .ok (.return_, 1) := by decide +kernel
theorem dX5_goThrough_0 : decode cX5_goThrough 0 = .ok (.iload_n 1, 1) := by decide +kernel
theorem dX5_goThrough_1 : decode cX5_goThrough 1 = .ok (.ifCond .lt 22, 3) := by decide +kernel
theorem dX5_goThrough_4 : decode cX5_goThrough 4 = .ok (.iload_n 1, 1) := by decide +kernel
theorem dX5_goThrough_5 : decode cX5_goThrough 5 = .ok (.aload_n 0, 1) := by decide +kernel
theorem dX5_goThrough_6 : decode cX5_goThrough 6 = .ok (.getfield 19, 3) := by decide +kernel
theorem dX5_goThrough_9 : decode cX5_goThrough 9 = .ok (.arraylength, 1) := by decide +kernel
theorem dX5_goThrough_10 : decode cX5_goThrough 10 = .ok (.if_icmp .ge 13, 3) := by decide +kernel
theorem dX5_goThrough_13 : decode cX5_goThrough 13 = .ok (.aload_n 0, 1) := by decide +kernel
theorem dX5_goThrough_14 : decode cX5_goThrough 14 = .ok (.getfield 19, 3) := by decide +kernel
theorem dX5_goThrough_17 : decode cX5_goThrough 17 = .ok (.iload_n 1, 1) := by decide +kernel
theorem dX5_goThrough_18 : decode cX5_goThrough 18 = .ok (.aaload, 1) := by decide +kernel
theorem dX5_goThrough_19 : decode cX5_goThrough 19 = .ok (.iload_n 2, 1) := by decide +kernel
theorem dX5_goThrough_20 : decode cX5_goThrough 20 = .ok (.invokevirtual 202, 3) := by decide +kernel
theorem dX5_goThrough_23 : decode cX5_goThrough 23 = .ok (.iload_n 2, 1) := by decide +kernel
theorem dX5_goThrough_24 : decode cX5_goThrough 24 = .ok (.ifCond .ne 26, 3) := by decide +kernel
theorem dX5_goThrough_27 : decode cX5_goThrough 27 = .ok (.aload_n 0, 1) := by decide +kernel
theorem dX5_goThrough_28 : decode cX5_goThrough 28 = .ok (.dup, 1) := by decide +kernel
theorem dX5_goThrough_29 : decode cX5_goThrough 29 = .ok (.getfield 54, 3) := by decide +kernel
theorem dX5_goThrough_32 : decode cX5_goThrough 32 = .ok (.iconst 1, 1) := by decide +kernel
theorem dX5_goThrough_33 : decode cX5_goThrough 33 = .ok (.iadd, 1) := by decide +kernel
theorem dX5_goThrough_34 : decode cX5_goThrough 34 = .ok (.putfield 54, 3) := by decide +kernel
theorem dX5_goThrough_37 : decode cX5_goThrough 37 = .ok (.aload_n 0, 1) := by decide +kernel
theorem dX5_goThrough_38 : decode cX5_goThrough 38 = .ok (.dup, 1) := by decide +kernel
theorem dX5_goThrough_39 : decode cX5_goThrough 39 = .ok (.getfield 51, 3) := by decide +kernel
theorem dX5_goThrough_42 : decode cX5_goThrough 42 = .ok (.iconst 1, 1) := by decide +kernel
theorem dX5_goThrough_43 : decode cX5_goThrough 43 = .ok (.iadd, 1) := by decide +kernel
theorem dX5_goThrough_44 : decode cX5_goThrough 44 = .ok (.putfield 51, 3) := by decide +kernel
theorem dX5_goThrough_47 : decode cX5_goThrough 47 = .ok (.goto 23, 3) := by decide +kernel
theorem dX5_goThrough_50 : decode cX5_goThrough 50 = .ok (.aload_n 0, 1) := by decide +kernel
theorem dX5_goThrough_51 : decode cX5_goThrough 51 = .ok (.dup, 1) := by decide +kernel
theorem dX5_goThrough_52 : decode cX5_goThrough 52 = .ok (.getfield 57, 3) := by decide +kernel
theorem dX5_goThrough_55 : decode cX5_goThrough 55 = .ok (.iconst 1, 1) := by decide +kernel
theorem dX5_goThrough_56 : decode cX5_goThrough 56 = .ok (.iadd, 1) := by decide +kernel
theorem dX5_goThrough_57 : decode cX5_goThrough 57 = .ok (.putfield 57, 3) := by decide +kernel
theorem dX5_goThrough_60 : decode cX5_goThrough 60 = .ok (.aload_n 0, 1) := by decide +kernel
theorem dX5_goThrough_61 : decode cX5_goThrough 61 = .ok (.dup, 1) := by decide +kernel
theorem dX5_goThrough_62 : decode cX5_goThrough 62 = .ok (.getfield 51, 3) := by decide +kernel
theorem dX5_goThrough_65 : decode cX5_goThrough 65 = .ok (.iconst 1, 1) := by decide +kernel
theorem dX5_goThrough_66 : decode cX5_goThrough 66 = .ok (.isub, 1) := by decide +kernel
theorem dX5_goThrough_67 : decode cX5_goThrough 67 = .ok (.putfield 51, 3) := by decide +kernel
theorem dX5_goThrough_70 : decode cX5_goThrough 70 = .ok (.return_, 1) := by decide +kernel
theorem dX5_serveNext_0 : decode cX5_serveNext 0 = .ok (.aload_n 1, 1) := by decide +kernel
theorem dX5_serveNext_1 : decode cX5_serveNext 1 = .ok (.invokevirtual 206, 3) := by decide +kernel
theorem dX5_serveNext_4 : decode cX5_serveNext 4 = .ok (.istore_n 2, 1) := by decide +kernel
theorem dX5_serveNext_5 : decode cX5_serveNext 5 = .ok (.aload_n 1, 1) := by decide +kernel
theorem dX5_serveNext_6 : decode cX5_serveNext 6 = .ok (.iload_n 2, 1) := by decide +kernel
theorem dX5_serveNext_7 : decode cX5_serveNext 7 = .ok (.invokevirtual 137, 3) := by decide +kernel
theorem dX5_serveNext_10 : decode cX5_serveNext 10 = .ok (.astore_n 3, 1) := by decide +kernel
theorem dX5_serveNext_11 : decode cX5_serveNext 11 = .ok (.aload_n 3, 1) := by decide +kernel
theorem dX5_serveNext_12 : decode cX5_serveNext 12 = .ok (.invokevirtual 209, 3) := by decide +kernel
theorem dX5_serveNext_15 : decode cX5_serveNext 15 = .ok (.istore 4, 2) := by decide +kernel
theorem dX5_serveNext_17 : decode cX5_serveNext 17 = .ok (.aload_n 3, 1) := by decide +kernel
theorem dX5_serveNext_18 : decode cX5_serveNext 18 = .ok (.iload 4, 2) := by decide +kernel
theorem dX5_serveNext_20 : decode cX5_serveNext 20 = .ok (.invokevirtual 212, 3) := by decide +kernel
theorem dX5_serveNext_23 : decode cX5_serveNext 23 = .ok (.istore 5, 2) := by decide +kernel
theorem dX5_serveNext_25 : decode cX5_serveNext 25 = .ok (.iload 5, 2) := by decide +kernel
theorem dX5_serveNext_27 : decode cX5_serveNext 27 = .ok (.ifCond .lt 13, 3) := by decide +kernel
theorem dX5_serveNext_30 : decode cX5_serveNext 30 = .ok (.iload 5, 2) := by decide +kernel
theorem dX5_serveNext_32 : decode cX5_serveNext 32 = .ok (.aload_n 0, 1) := by decide +kernel
theorem dX5_serveNext_33 : decode cX5_serveNext 33 = .ok (.getfield 19, 3) := by decide +kernel
theorem dX5_serveNext_36 : decode cX5_serveNext 36 = .ok (.arraylength, 1) := by decide +kernel
theorem dX5_serveNext_37 : decode cX5_serveNext 37 = .ok (.if_icmp .lt 4, 3) := by decide +kernel
theorem dX5_serveNext_40 : decode cX5_serveNext 40 = .ok (.return_, 1) := by decide +kernel
theorem dX5_serveNext_41 : decode cX5_serveNext 41 = .ok (.aload_n 0, 1) := by decide +kernel
theorem dX5_serveNext_42 : decode cX5_serveNext 42 = .ok (.getfield 19, 3) := by decide +kernel
theorem dX5_serveNext_45 : decode cX5_serveNext 45 = .ok (.iload 5, 2) := by decide +kernel
theorem dX5_serveNext_47 : decode cX5_serveNext 47 = .ok (.aaload, 1) := by decide +kernel
theorem dX5_serveNext_48 : decode cX5_serveNext 48 = .ok (.iload_n 2, 1) := by decide +kernel
theorem dX5_serveNext_49 : decode cX5_serveNext 49 = .ok (.invokevirtual 215, 3) := by decide +kernel
theorem dX5_serveNext_52 : decode cX5_serveNext 52 = .ok (.ifCond .ne 19, 3) := by decide +kernel
theorem dX5_serveNext_55 : decode cX5_serveNext 55 = .ok (.aload_n 3, 1) := by decide +kernel
theorem dX5_serveNext_56 : decode cX5_serveNext 56 = .ok (.iload 4, 2) := by decide +kernel
theorem dX5_serveNext_58 : decode cX5_serveNext 58 = .ok (.invokevirtual 218, 3) := by decide +kernel
theorem dX5_serveNext_61 : decode cX5_serveNext 61 = .ok (.aload_n 1, 1) := by decide +kernel
theorem dX5_serveNext_62 : decode cX5_serveNext 62 = .ok (.iload_n 2, 1) := by decide +kernel
theorem dX5_serveNext_63 : decode cX5_serveNext 63 = .ok (.aload_n 0, 1) := by decide +kernel
theorem dX5_serveNext_64 : decode cX5_serveNext 64 = .ok (.getfield 23, 3) := by decide +kernel
theorem dX5_serveNext_67 : decode cX5_serveNext 67 = .ok (.invokevirtual 221, 3) := by decide +kernel
theorem dX5_serveNext_70 : decode cX5_serveNext 70 = .ok (.return_, 1) := by decide +kernel
theorem dX5_serveNext_71 : decode cX5_serveNext 71 = .ok (.aload_n 3, 1) := by decide +kernel
theorem dX5_serveNext_72 : decode cX5_serveNext 72 = .ok (.iload 4, 2) := by decide +kernel
theorem dX5_serveNext_74 : decode cX5_serveNext 74 = .ok (.invokevirtual 180, 3) := by decide +kernel
theorem dX5_serveNext_77 : decode cX5_serveNext 77 = .ok (.pop, 1) := by decide +kernel
theorem dX5_serveNext_78 : decode cX5_serveNext 78 = .ok (.aload_n 0, 1) := by decide +kernel
theorem dX5_serveNext_79 : decode cX5_serveNext 79 = .ok (.dup, 1) := by decide +kernel
theorem dX5_serveNext_80 : decode cX5_serveNext 80 = .ok (.getfield 63, 3) := by decide +kernel
theorem dX5_serveNext_83 : decode cX5_serveNext 83 = .ok (.iconst 1, 1) := by decide +kernel
theorem dX5_serveNext_84 : decode cX5_serveNext 84 = .ok (.iadd, 1) := by decide +kernel
theorem dX5_serveNext_85 : decode cX5_serveNext 85 = .ok (.putfield 63, 3) := by decide +kernel
theorem dX5_serveNext_88 : decode cX5_serveNext 88 = .ok (.iload_n 2, 1) := by decide +kernel
theorem dX5_serveNext_89 : decode cX5_serveNext 89 = .ok (.iconst 1, 1) := by decide +kernel
theorem dX5_serveNext_90 : decode cX5_serveNext 90 = .ok (.if_icmp .ne 23, 3) := by decide +kernel
theorem dX5_serveNext_93 : decode cX5_serveNext 93 = .ok (.aload_n 0, 1) := by decide +kernel
theorem dX5_serveNext_94 : decode cX5_serveNext 94 = .ok (.dup, 1) := by decide +kernel
theorem dX5_serveNext_95 : decode cX5_serveNext 95 = .ok (.getfield 66, 3) := by decide +kernel
theorem dX5_serveNext_98 : decode cX5_serveNext 98 = .ok (.iconst 1, 1) := by decide +kernel
theorem dX5_serveNext_99 : decode cX5_serveNext 99 = .ok (.iadd, 1) := by decide +kernel
theorem dX5_serveNext_100 : decode cX5_serveNext 100 = .ok (.putfield 66, 3) := by decide +kernel
theorem dX5_serveNext_103 : decode cX5_serveNext 103 = .ok (.aload_n 0, 1) := by decide +kernel
theorem dX5_serveNext_104 : decode cX5_serveNext 104 = .ok (.dup, 1) := by decide +kernel
theorem dX5_serveNext_105 : decode cX5_serveNext 105 = .ok (.getfield 51, 3) := by decide +kernel
theorem dX5_serveNext_108 : decode cX5_serveNext 108 = .ok (.iconst 1, 1) := by decide +kernel
theorem dX5_serveNext_109 : decode cX5_serveNext 109 = .ok (.isub, 1) := by decide +kernel
theorem dX5_serveNext_110 : decode cX5_serveNext 110 = .ok (.putfield 51, 3) := by decide +kernel
theorem dX5_serveNext_113 : decode cX5_serveNext 113 = .ok (.return_, 1) := by decide +kernel
theorem dX6_init_0 : decode cX6_init 0 = .ok (.aload_n 0, 1) := by decide +kernel
theorem dX6_init_1 : decode cX6_init 1 = .ok (.invokespecial 3, 3) := by decide +kernel
theorem dX6_init_4 : decode cX6_init 4 = .ok (.return_, 1) := by decide +kernel
theorem dX6_readSetup_0 : decode cX6_readSetup 0 = .ok (.aload_n 0, 1) := by decide +kernel
theorem dX6_readSetup_1 : decode cX6_readSetup 1 = .ok (.aload_n 1, 1) := by decide +kernel
theorem dX6_readSetup_2 : decode cX6_readSetup 2 = .ok (.aload_n 2, 1) := by decide +kernel
theorem dX6_readSetup_3 : decode cX6_readSetup 3 = .ok (.invokevirtual 9, 3) := by decide +kernel
theorem dX6_readSetup_6 : decode cX6_readSetup 6 = .ok (.istore_n 3, 1) := by decide +kernel
theorem dX6_readSetup_7 : decode cX6_readSetup 7 = .ok (.iconst 0, 1) := by decide +kernel
theorem dX6_readSetup_8 : decode cX6_readSetup 8 = .ok (.istore 4, 2) := by decide +kernel
theorem dX6_readSetup_10 : decode cX6_readSetup 10 = .ok (.iload_n 3, 1) := by decide +kernel
theorem dX6_readSetup_11 : decode cX6_readSetup 11 = .ok (.ifCond .eq 167, 3) := by decide +kernel
theorem dX6_readSetup_14 : decode cX6_readSetup 14 = .ok (.iload 4, 2) := by decide +kernel
theorem dX6_readSetup_16 : decode cX6_readSetup 16 = .ok (.sipush 500, 3) := by decide +kernel
theorem dX6_readSetup_19 : decode cX6_readSetup 19 = .ok (.if_icmp .ge 159, 3) := by decide +kernel
theorem dX6_readSetup_22 : decode cX6_readSetup 22 = .ok (.aload_n 1, 1) := by decide +kernel
theorem dX6_readSetup_23 : decode cX6_readSetup 23 = .ok (.getfield 15, 3) := by decide +kernel
theorem dX6_readSetup_26 : decode cX6_readSetup 26 = .ok (.ifCond .eq 152, 3) := by decide +kernel
theorem dX6_readSetup_29 : decode cX6_readSetup 29 = .ok (.aload_n 1, 1) := by decide +kernel
theorem dX6_readSetup_30 : decode cX6_readSetup 30 = .ok (.ldc 21, 2) := by decide +kernel
theorem dX6_readSetup_32 : decode cX6_readSetup 32 = .ok (.invokevirtual 23, 3) := by decide +kernel
theorem dX6_readSetup_35 : decode cX6_readSetup 35 = .ok (.ifCond .eq 13, 3) := by decide +kernel
theorem dX6_readSetup_38 : decode cX6_readSetup 38 = .ok (.aload_n 0, 1) := by decide +kernel
theorem dX6_readSetup_39 : decode cX6_readSetup 39 = .ok (.aload_n 1, 1) := by decide +kernel
theorem dX6_readSetup_40 : decode cX6_readSetup 40 = .ok (.aload_n 2, 1) := by decide +kernel
theorem dX6_readSetup_41 : decode cX6_readSetup 41 = .ok (.invokevirtual 27, 3) := by decide +kernel
theorem dX6_readSetup_44 : decode cX6_readSetup 44 = .ok (.istore_n 3, 1) := by decide +kernel
theorem dX6_readSetup_45 : decode cX6_readSetup 45 = .ok (.goto 109, 3) := by decide +kernel
theorem dX6_readSetup_48 : decode cX6_readSetup 48 = .ok (.aload_n 1, 1) := by decide +kernel
theorem dX6_readSetup_49 : decode cX6_readSetup 49 = .ok (.ldc 30, 2) := by decide +kernel
theorem dX6_readSetup_51 : decode cX6_readSetup 51 = .ok (.invokevirtual 23, 3) := by decide +kernel
theorem dX6_readSetup_54 : decode cX6_readSetup 54 = .ok (.ifCond .eq 13, 3) := by decide +kernel
theorem dX6_readSetup_57 : decode cX6_readSetup 57 = .ok (.aload_n 0, 1) := by decide +kernel
theorem dX6_readSetup_58 : decode cX6_readSetup 58 = .ok (.aload_n 1, 1) := by decide +kernel
theorem dX6_readSetup_59 : decode cX6_readSetup 59 = .ok (.aload_n 2, 1) := by decide +kernel
theorem dX6_readSetup_60 : decode cX6_readSetup 60 = .ok (.invokevirtual 32, 3) := by decide +kernel
theorem dX6_readSetup_63 : decode cX6_readSetup 63 = .ok (.istore_n 3, 1) := by decide +kernel
theorem dX6_readSetup_64 : decode cX6_readSetup 64 = .ok (.goto 90, 3) := by decide +kernel
theorem dX6_readSetup_67 : decode cX6_readSetup 67 = .ok (.aload_n 1, 1) := by decide +kernel
theorem dX6_readSetup_68 : decode cX6_readSetup 68 = .ok (.ldc 35, 2) := by decide +kernel
theorem dX6_readSetup_70 : decode cX6_readSetup 70 = .ok (.invokevirtual 23, 3) := by decide +kernel
theorem dX6_readSetup_73 : decode cX6_readSetup 73 = .ok (.ifCond .eq 13, 3) := by decide +kernel
theorem dX6_readSetup_76 : decode cX6_readSetup 76 = .ok (.aload_n 0, 1) := by decide +kernel
theorem dX6_readSetup_77 : decode cX6_readSetup 77 = .ok (.aload_n 1, 1) := by decide +kernel
theorem dX6_readSetup_78 : decode cX6_readSetup 78 = .ok (.aload_n 2, 1) := by decide +kernel
theorem dX6_readSetup_79 : decode cX6_readSetup 79 = .ok (.invokevirtual 37, 3) := by decide +kernel
theorem dX6_readSetup_82 : decode cX6_readSetup 82 = .ok (.istore_n 3, 1) := by decide +kernel
theorem dX6_readSetup_83 : decode cX6_readSetup 83 = .ok (.goto 71, 3) := by decide +kernel
theorem dX6_readSetup_86 : decode cX6_readSetup 86 = .ok (.aload_n 1, 1) := by decide +kernel
theorem dX6_readSetup_87 : decode cX6_readSetup 87 = .ok (.ldc 40, 2) := by decide +kernel
theorem dX6_readSetup_89 : decode cX6_readSetup 89 = .ok (.invokevirtual 23, 3) := by decide +kernel
theorem dX6_readSetup_92 : decode cX6_readSetup 92 = .ok (.ifCond .eq 13, 3) := by decide +kernel
theorem dX6_readSetup_95 : decode cX6_readSetup 95 = .ok (.aload_n 0, 1) := by decide +kernel
theorem dX6_readSetup_96 : decode cX6_readSetup 96 = .ok (.aload_n 1, 1) := by decide +kernel
theorem dX6_readSetup_97 : decode cX6_readSetup 97 = .ok (.aload_n 2, 1) := by decide +kernel
theorem dX6_readSetup_98 : decode cX6_readSetup 98 = .ok (.invokevirtual 42, 3) := by decide +kernel
theorem dX6_readSetup_101 : decode cX6_readSetup 101 = .ok (.istore_n 3, 1) := by decide +kernel
theorem dX6_readSetup_102 : decode cX6_readSetup 102 = .ok (.goto 52, 3) := by decide +kernel
theorem dX6_readSetup_105 : decode cX6_readSetup 105 = .ok (.aload_n 1, 1) := by decide +kernel
theorem dX6_readSetup_106 : decode cX6_readSetup 106 = .ok (.ldc 45, 2) := by decide +kernel
theorem dX6_readSetup_108 : decode cX6_readSetup 108 = .ok (.invokevirtual 23, 3) := by decide +kernel
theorem dX6_readSetup_111 : decode cX6_readSetup 111 = .ok (.ifCond .eq 13, 3) := by decide +kernel
theorem dX6_readSetup_114 : decode cX6_readSetup 114 = .ok (.aload_n 0, 1) := by decide +kernel
theorem dX6_readSetup_115 : decode cX6_readSetup 115 = .ok (.aload_n 1, 1) := by decide +kernel
theorem dX6_readSetup_116 : decode cX6_readSetup 116 = .ok (.aload_n 2, 1) := by decide +kernel
theorem dX6_readSetup_117 : decode cX6_readSetup 117 = .ok (.invokevirtual 47, 3) := by decide +kernel
theorem dX6_readSetup_120 : decode cX6_readSetup 120 = .ok (.istore_n 3, 1) := by decide +kernel
theorem dX6_readSetup_121 : decode cX6_readSetup 121 = .ok (.goto 33, 3) := by decide +kernel
theorem dX6_readSetup_124 : decode cX6_readSetup 124 = .ok (.aload_n 1, 1) := by decide +kernel
theorem dX6_readSetup_125 : decode cX6_readSetup 125 = .ok (.ldc 50, 2) := by decide +kernel
theorem dX6_readSetup_127 : decode cX6_readSetup 127 = .ok (.invokevirtual 23, 3) := by decide +kernel
theorem dX6_readSetup_130 : decode cX6_readSetup 130 = .ok (.ifCond .eq 13, 3) := by decide +kernel
theorem dX6_readSetup_133 : decode cX6_readSetup 133 = .ok (.aload_n 0, 1) := by decide +kernel
theorem dX6_readSetup_134 : decode cX6_readSetup 134 = .ok (.aload_n 1, 1) := by decide +kernel
theorem dX6_readSetup_135 : decode cX6_readSetup 135 = .ok (.aload_n 2, 1) := by decide +kernel
theorem dX6_readSetup_136 : decode cX6_readSetup 136 = .ok (.invokevirtual 52, 3) := by decide +kernel
theorem dX6_readSetup_139 : decode cX6_readSetup 139 = .ok (.istore_n 3, 1) := by decide +kernel
theorem dX6_readSetup_140 : decode cX6_readSetup 140 = .ok (.goto 14, 3) := by decide +kernel
theorem dX6_readSetup_143 : decode cX6_readSetup 143 = .ok (.aload_n 0, 1) := by decide +kernel
theorem dX6_readSetup_144 : decode cX6_readSetup 144 = .ok (.bipush (-2), 2) := by decide +kernel
theorem dX6_readSetup_146 : decode cX6_readSetup 146 = .ok (.aload_n 1, 1) := by decide +kernel
theorem dX6_readSetup_147 : decode cX6_readSetup 147 = .ok (.getfield 55, 3) := by decide +kernel
theorem dX6_readSetup_150 : decode cX6_readSetup 150 = .ok (.invokevirtual 58, 3) := by decide +kernel
theorem dX6_readSetup_153 : decode cX6_readSetup 153 = .ok (.istore_n 3, 1) := by decide +kernel
theorem dX6_readSetup_154 : decode cX6_readSetup 154 = .ok (.iload_n 3, 1) := by decide +kernel
theorem dX6_readSetup_155 : decode cX6_readSetup 155 = .ok (.ifCond .eq 15, 3) := by decide +kernel
theorem dX6_readSetup_158 : decode cX6_readSetup 158 = .ok (.aload_n 0, 1) := by decide +kernel
theorem dX6_readSetup_159 : decode cX6_readSetup 159 = .ok (.aload_n 1, 1) := by decide +kernel
theorem dX6_readSetup_160 : decode cX6_readSetup 160 = .ok (.invokevirtual 62, 3) := by decide +kernel
theorem dX6_readSetup_163 : decode cX6_readSetup 163 = .ok (.ifCond .eq 7, 3) := by decide +kernel
theorem dX6_readSetup_166 : decode cX6_readSetup 166 = .ok (.iconst 1, 1) := by decide +kernel
theorem dX6_readSetup_167 : decode cX6_readSetup 167 = .ok (.goto 4, 3) := by decide +kernel
theorem dX6_readSetup_170 : decode cX6_readSetup 170 = .ok (.iconst 0, 1) := by decide +kernel
theorem dX6_readSetup_171 : decode cX6_readSetup 171 = .ok (.istore_n 3, 1) := by decide +kernel
theorem dX6_readSetup_172 : decode cX6_readSetup 172 = .ok (.iinc 4 1, 3) := by decide +kernel
theorem dX6_readSetup_175 : decode cX6_readSetup 175 = .ok (.goto (-165), 3) := by decide +kernel
theorem dX6_readSetup_178 : decode cX6_readSetup 178 = .ok (.iload_n 3, 1) := by decide +kernel
theorem dX6_readSetup_179 : decode cX6_readSetup 179 = .ok (.ireturn, 1) := by decide +kernel
theorem dX6_readHead_0 : decode cX6_readHead 0 = .ok (.aload_n 1, 1) := by decide +kernel
theorem dX6_readHead_1 : decode cX6_readHead 1 = .ok (.ldc 66, 2) := by decide +kernel
theorem dX6_readHead_3 : decode cX6_readHead 3 = .ok (.invokevirtual 23, 3) := by decide +kernel
theorem dX6_readHead_6 : decode cX6_readHead 6 = .ok (.ifCond .ne 14, 3) := by decide +kernel
theorem dX6_readHead_9 : decode cX6_readHead 9 = .ok (.aload_n 0, 1) := by decide +kernel
theorem dX6_readHead_10 : decode cX6_readHead 10 = .ok (.bipush (-2), 2) := by decide +kernel
theorem dX6_readHead_12 : decode cX6_readHead 12 = .ok (.aload_n 1, 1) := by decide +kernel
theorem dX6_readHead_13 : decode cX6_readHead 13 = .ok (.getfield 55, 3) := by decide +kernel
theorem dX6_readHead_16 : decode cX6_readHead 16 = .ok (.invokevirtual 58, 3) := by decide +kernel
theorem dX6_readHead_19 : decode cX6_readHead 19 = .ok (.ireturn, 1) := by decide +kernel
theorem dX6_readHead_20 : decode cX6_readHead 20 = .ok (.aload_n 1, 1) := by decide +kernel
theorem dX6_readHead_21 : decode cX6_readHead 21 = .ok (.invokevirtual 68, 3) := by decide +kernel
theorem dX6_readHead_24 : decode cX6_readHead 24 = .ok (.aload_n 0, 1) := by decide +kernel
theorem dX6_readHead_25 : decode cX6_readHead 25 = .ok (.aload_n 1, 1) := by decide +kernel
theorem dX6_readHead_26 : decode cX6_readHead 26 = .ok (.iconst 1, 1) := by decide +kernel
theorem dX6_readHead_27 : decode cX6_readHead 27 = .ok (.bipush 9, 2) := by decide +kernel
theorem dX6_readHead_29 : decode cX6_readHead 29 = .ok (.invokevirtual 71, 3) := by decide +kernel
theorem dX6_readHead_32 : decode cX6_readHead 32 = .ok (.istore_n 3, 1) := by decide +kernel
theorem dX6_readHead_33 : decode cX6_readHead 33 = .ok (.iload_n 3, 1) := by decide +kernel
theorem dX6_readHead_34 : decode cX6_readHead 34 = .ok (.ifCond .ge 5, 3) := by decide +kernel
theorem dX6_readHead_37 : decode cX6_readHead 37 = .ok (.iconst 0, 1) := by decide +kernel
theorem dX6_readHead_38 : decode cX6_readHead 38 = .ok (.ireturn, 1) := by decide +kernel
theorem dX6_readHead_39 : decode cX6_readHead 39 = .ok (.aload_n 0, 1) := by decide +kernel
theorem dX6_readHead_40 : decode cX6_readHead 40 = .ok (.aload_n 1, 1) := by decide +kernel
theorem dX6_readHead_41 : decode cX6_readHead 41 = .ok (.iconst 1, 1) := by decide +kernel
theorem dX6_readHead_42 : decode cX6_readHead 42 = .ok (.iconst 4, 1) := by decide +kernel
theorem dX6_readHead_43 : decode cX6_readHead 43 = .ok (.invokevirtual 71, 3) := by decide +kernel
theorem dX6_readHead_46 : decode cX6_readHead 46 = .ok (.istore 4, 2) := by decide +kernel
theorem dX6_readHead_48 : decode cX6_readHead 48 = .ok (.iload 4, 2) := by decide +kernel
theorem dX6_readHead_50 : decode cX6_readHead 50 = .ok (.ifCond .ge 5, 3) := by decide +kernel
theorem dX6_readHead_53 : decode cX6_readHead 53 = .ok (.iconst 0, 1) := by decide +kernel
theorem dX6_readHead_54 : decode cX6_readHead 54 = .ok (.ireturn, 1) := by decide +kernel
theorem dX6_readHead_55 : decode cX6_readHead 55 = .ok (.aload_n 2, 1) := by decide +kernel
theorem dX6_readHead_56 : decode cX6_readHead 56 = .ok (.iload_n 3, 1) := by decide +kernel
theorem dX6_readHead_57 : decode cX6_readHead 57 = .ok (.putfield 75, 3) := by decide +kernel
theorem dX6_readHead_60 : decode cX6_readHead 60 = .ok (.aload_n 2, 1) := by decide +kernel
theorem dX6_readHead_61 : decode cX6_readHead 61 = .ok (.iload 4, 2) := by decide +kernel
theorem dX6_readHead_63 : decode cX6_readHead 63 = .ok (.putfield 80, 3) := by decide +kernel
theorem dX6_readHead_66 : decode cX6_readHead 66 = .ok (.aload_n 0, 1) := by decide +kernel
theorem dX6_readHead_67 : decode cX6_readHead 67 = .ok (.aload_n 1, 1) := by decide +kernel
theorem dX6_readHead_68 : decode cX6_readHead 68 = .ok (.invokevirtual 62, 3) := by decide +kernel
theorem dX6_readHead_71 : decode cX6_readHead 71 = .ok (.ireturn, 1) := by decide +kernel
theorem dX6_readGate_0 : decode cX6_readGate 0 = .ok (.aload_n 2, 1) := by decide +kernel
theorem dX6_readGate_1 : decode cX6_readGate 1 = .ok (.invokevirtual 83, 3) := by decide +kernel
theorem dX6_readGate_4 : decode cX6_readGate 4 = .ok (.ifCond .ne 14, 3) := by decide +kernel
theorem dX6_readGate_7 : decode cX6_readGate 7 = .ok (.aload_n 0, 1) := by decide +kernel
theorem dX6_readGate_8 : decode cX6_readGate 8 = .ok (.bipush (-5), 2) := by decide +kernel
theorem dX6_readGate_10 : decode cX6_readGate 10 = .ok (.aload_n 1, 1) := by decide +kernel
theorem dX6_readGate_11 : decode cX6_readGate 11 = .ok (.getfield 55, 3) := by decide +kernel
theorem dX6_readGate_14 : decode cX6_readGate 14 = .ok (.invokevirtual 58, 3) := by decide +kernel
theorem dX6_readGate_17 : decode cX6_readGate 17 = .ok (.ireturn, 1) := by decide +kernel
theorem dX6_readGate_18 : decode cX6_readGate 18 = .ok (.aload_n 1, 1) := by decide +kernel
theorem dX6_readGate_19 : decode cX6_readGate 19 = .ok (.invokevirtual 68, 3) := by decide +kernel
theorem dX6_readGate_22 : decode cX6_readGate 22 = .ok (.aload_n 1, 1) := by decide +kernel
theorem dX6_readGate_23 : decode cX6_readGate 23 = .ok (.ldc 87, 2) := by decide +kernel
theorem dX6_readGate_25 : decode cX6_readGate 25 = .ok (.invokevirtual 23, 3) := by decide +kernel
theorem dX6_readGate_28 : decode cX6_readGate 28 = .ok (.ifCond .eq 7, 3) := by decide +kernel
theorem dX6_readGate_31 : decode cX6_readGate 31 = .ok (.iconst 2, 1) := by decide +kernel
theorem dX6_readGate_32 : decode cX6_readGate 32 = .ok (.goto 30, 3) := by decide +kernel
theorem dX6_readGate_35 : decode cX6_readGate 35 = .ok (.aload_n 1, 1) := by decide +kernel
theorem dX6_readGate_36 : decode cX6_readGate 36 = .ok (.ldc 89, 2) := by decide +kernel
theorem dX6_readGate_38 : decode cX6_readGate 38 = .ok (.invokevirtual 23, 3) := by decide +kernel
theorem dX6_readGate_41 : decode cX6_readGate 41 = .ok (.ifCond .eq 7, 3) := by decide +kernel
theorem dX6_readGate_44 : decode cX6_readGate 44 = .ok (.iconst 1, 1) := by decide +kernel
theorem dX6_readGate_45 : decode cX6_readGate 45 = .ok (.goto 17, 3) := by decide +kernel
theorem dX6_readGate_48 : decode cX6_readGate 48 = .ok (.aload_n 1, 1) := by decide +kernel
theorem dX6_readGate_49 : decode cX6_readGate 49 = .ok (.ldc 91, 2) := by decide +kernel
theorem dX6_readGate_51 : decode cX6_readGate 51 = .ok (.invokevirtual 23, 3) := by decide +kernel
theorem dX6_readGate_54 : decode cX6_readGate 54 = .ok (.ifCond .eq 7, 3) := by decide +kernel
theorem dX6_readGate_57 : decode cX6_readGate 57 = .ok (.iconst 0, 1) := by decide +kernel
theorem dX6_readGate_58 : decode cX6_readGate 58 = .ok (.goto 4, 3) := by decide +kernel
theorem dX6_readGate_61 : decode cX6_readGate 61 = .ok (.iconst (-1), 1) := by decide +kernel
theorem dX6_readGate_62 : decode cX6_readGate 62 = .ok (.istore_n 3, 1) := by decide +kernel
theorem dX6_readGate_63 : decode cX6_readGate 63 = .ok (.iload_n 3, 1) := by decide +kernel
theorem dX6_readGate_64 : decode cX6_readGate 64 = .ok (.iconst (-1), 1) := by decide +kernel
theorem dX6_readGate_65 : decode cX6_readGate 65 = .ok (.if_icmp .ne 14, 3) := by decide +kernel
theorem dX6_readGate_68 : decode cX6_readGate 68 = .ok (.aload_n 0, 1) := by decide +kernel
theorem dX6_readGate_69 : decode cX6_readGate 69 = .ok (.bipush (-2), 2) := by decide +kernel
theorem dX6_readGate_71 : decode cX6_readGate 71 = .ok (.aload_n 1, 1) := by decide +kernel
theorem dX6_readGate_72 : decode cX6_readGate 72 = .ok (.getfield 55, 3) := by decide +kernel
theorem dX6_readGate_75 : decode cX6_readGate 75 = .ok (.invokevirtual 58, 3) := by decide +kernel
theorem dX6_readGate_78 : decode cX6_readGate 78 = .ok (.ireturn, 1) := by decide +kernel
theorem dX6_readGate_79 : decode cX6_readGate 79 = .ok (.aload_n 1, 1) := by decide +kernel
theorem dX6_readGate_80 : decode cX6_readGate 80 = .ok (.invokevirtual 68, 3) := by decide +kernel
theorem dX6_readGate_83 : decode cX6_readGate 83 = .ok (.aload_n 2, 1) := by decide +kernel
theorem dX6_readGate_84 : decode cX6_readGate 84 = .ok (.iload_n 3, 1) := by decide +kernel
theorem dX6_readGate_85 : decode cX6_readGate 85 = .ok (.invokevirtual 93, 3) := by decide +kernel
theorem dX6_readGate_88 : decode cX6_readGate 88 = .ok (.iconst 1, 1) := by decide +kernel
theorem dX6_readGate_89 : decode cX6_readGate 89 = .ok (.ireturn, 1) := by decide +kernel
theorem dX6_readCard_0 : decode cX6_readCard 0 = .ok (.aload_n 2, 1) := by decide +kernel
theorem dX6_readCard_1 : decode cX6_readCard 1 = .ok (.invokevirtual 97, 3) := by decide +kernel
theorem dX6_readCard_4 : decode cX6_readCard 4 = .ok (.ifCond .ne 14, 3) := by decide +kernel
theorem dX6_readCard_7 : decode cX6_readCard 7 = .ok (.aload_n 0, 1) := by decide +kernel
theorem dX6_readCard_8 : decode cX6_readCard 8 = .ok (.bipush (-5), 2) := by decide +kernel
theorem dX6_readCard_10 : decode cX6_readCard 10 = .ok (.aload_n 1, 1) := by decide +kernel
theorem dX6_readCard_11 : decode cX6_readCard 11 = .ok (.getfield 55, 3) := by decide +kernel
theorem dX6_readCard_14 : decode cX6_readCard 14 = .ok (.invokevirtual 58, 3) := by decide +kernel
theorem dX6_readCard_17 : decode cX6_readCard 17 = .ok (.ireturn, 1) := by decide +kernel
theorem dX6_readCard_18 : decode cX6_readCard 18 = .ok (.aload_n 1, 1) := by decide +kernel
theorem dX6_readCard_19 : decode cX6_readCard 19 = .ok (.invokevirtual 68, 3) := by decide +kernel
theorem dX6_readCard_22 : decode cX6_readCard 22 = .ok (.aload_n 0, 1) := by decide +kernel
theorem dX6_readCard_23 : decode cX6_readCard 23 = .ok (.aload_n 1, 1) := by decide +kernel
theorem dX6_readCard_24 : decode cX6_readCard 24 = .ok (.invokevirtual 100, 3) := by decide +kernel
theorem dX6_readCard_27 : decode cX6_readCard 27 = .ok (.ifCond .ne 5, 3) := by decide +kernel
theorem dX6_readCard_30 : decode cX6_readCard 30 = .ok (.iconst 0, 1) := by decide +kernel
theorem dX6_readCard_31 : decode cX6_readCard 31 = .ok (.ireturn, 1) := by decide +kernel
theorem dX6_readCard_32 : decode cX6_readCard 32 = .ok (.aload_n 1, 1) := by decide +kernel
theorem dX6_readCard_33 : decode cX6_readCard 33 = .ok (.getfield 103, 3) := by decide +kernel
theorem dX6_readCard_36 : decode cX6_readCard 36 = .ok (.istore_n 3, 1) := by decide +kernel
theorem dX6_readCard_37 : decode cX6_readCard 37 = .ok (.aload_n 2, 1) := by decide +kernel
theorem dX6_readCard_38 : decode cX6_readCard 38 = .ok (.iload_n 3, 1) := by decide +kernel
theorem dX6_readCard_39 : decode cX6_readCard 39 = .ok (.invokevirtual 106, 3) := by decide +kernel
theorem dX6_readCard_42 : decode cX6_readCard 42 = .ok (.iconst (-1), 1) := by decide +kernel
theorem dX6_readCard_43 : decode cX6_readCard 43 = .ok (.if_icmp .eq 14, 3) := by decide +kernel
theorem dX6_readCard_46 : decode cX6_readCard 46 = .ok (.aload_n 0, 1) := by decide +kernel
theorem dX6_readCard_47 : decode cX6_readCard 47 = .ok (.bipush (-4), 2) := by decide +kernel
theorem dX6_readCard_49 : decode cX6_readCard 49 = .ok (.aload_n 1, 1) := by decide +kernel
theorem dX6_readCard_50 : decode cX6_readCard 50 = .ok (.getfield 55, 3) := by decide +kernel
theorem dX6_readCard_53 : decode cX6_readCard 53 = .ok (.invokevirtual 58, 3) := by decide +kernel
theorem dX6_readCard_56 : decode cX6_readCard 56 = .ok (.ireturn, 1) := by decide +kernel
theorem dX6_readCard_57 : decode cX6_readCard 57 = .ok (.aload_n 1, 1) := by decide +kernel
theorem dX6_readCard_58 : decode cX6_readCard 58 = .ok (.invokevirtual 68, 3) := by decide +kernel
theorem dX6_readCard_61 : decode cX6_readCard 61 = .ok (.aload_n 0, 1) := by decide +kernel
theorem dX6_readCard_62 : decode cX6_readCard 62 = .ok (.aload_n 1, 1) := by decide +kernel
theorem dX6_readCard_63 : decode cX6_readCard 63 = .ok (.iconst 0, 1) := by decide +kernel
theorem dX6_readCard_64 : decode cX6_readCard 64 = .ok (.bipush 99, 2) := by decide +kernel
theorem dX6_readCard_66 : decode cX6_readCard 66 = .ok (.invokevirtual 71, 3) := by decide +kernel
theorem dX6_readCard_69 : decode cX6_readCard 69 = .ok (.istore 4, 2) := by decide +kernel
theorem dX6_readCard_71 : decode cX6_readCard 71 = .ok (.iload 4, 2) := by decide +kernel
theorem dX6_readCard_73 : decode cX6_readCard 73 = .ok (.ifCond .ge 5, 3) := by decide +kernel
theorem dX6_readCard_76 : decode cX6_readCard 76 = .ok (.iconst 0, 1) := by decide +kernel
theorem dX6_readCard_77 : decode cX6_readCard 77 = .ok (.ireturn, 1) := by decide +kernel
theorem dX6_readCard_78 : decode cX6_readCard 78 = .ok (.aload_n 2, 1) := by decide +kernel
theorem dX6_readCard_79 : decode cX6_readCard 79 = .ok (.iload_n 3, 1) := by decide +kernel
theorem dX6_readCard_80 : decode cX6_readCard 80 = .ok (.iload 4, 2) := by decide +kernel
theorem dX6_readCard_82 : decode cX6_readCard 82 = .ok (.invokevirtual 110, 3) := by decide +kernel
theorem dX6_readCard_85 : decode cX6_readCard 85 = .ok (.iconst 1, 1) := by decide +kernel
theorem dX6_readCard_86 : decode cX6_readCard 86 = .ok (.ireturn, 1) := by decide +kernel
theorem dX6_readList_0 : decode cX6_readList 0 = .ok (.aload_n 1, 1) := by decide +kernel
theorem dX6_readList_1 : decode cX6_readList 1 = .ok (.invokevirtual 68, 3) := by decide +kernel
theorem dX6_readList_4 : decode cX6_readList 4 = .ok (.iconst 0, 1) := by decide +kernel
theorem dX6_readList_5 : decode cX6_readList 5 = .ok (.istore_n 3, 1) := by decide +kernel
theorem dX6_readList_6 : decode cX6_readList 6 = .ok (.aload_n 0, 1) := by decide +kernel
theorem dX6_readList_7 : decode cX6_readList 7 = .ok (.aload_n 1, 1) := by decide +kernel
theorem dX6_readList_8 : decode cX6_readList 8 = .ok (.aload_n 2, 1) := by decide +kernel
theorem dX6_readList_9 : decode cX6_readList 9 = .ok (.invokevirtual 114, 3) := by decide +kernel
theorem dX6_readList_12 : decode cX6_readList 12 = .ok (.istore 4, 2) := by decide +kernel
theorem dX6_readList_14 : decode cX6_readList 14 = .ok (.aload_n 2, 1) := by decide +kernel
theorem dX6_readList_15 : decode cX6_readList 15 = .ok (.iload 4, 2) := by decide +kernel
theorem dX6_readList_17 : decode cX6_readList 17 = .ok (.invokevirtual 118, 3) := by decide +kernel
theorem dX6_readList_20 : decode cX6_readList 20 = .ok (.ifCond .ne 5, 3) := by decide +kernel
theorem dX6_readList_23 : decode cX6_readList 23 = .ok (.iconst 0, 1) := by decide +kernel
theorem dX6_readList_24 : decode cX6_readList 24 = .ok (.ireturn, 1) := by decide +kernel
theorem dX6_readList_25 : decode cX6_readList 25 = .ok (.aload_n 2, 1) := by decide +kernel
theorem dX6_readList_26 : decode cX6_readList 26 = .ok (.getfield 122, 3) := by decide +kernel
theorem dX6_readList_29 : decode cX6_readList 29 = .ok (.iload 4, 2) := by decide +kernel
theorem dX6_readList_31 : decode cX6_readList 31 = .ok (.aaload, 1) := by decide +kernel
theorem dX6_readList_32 : decode cX6_readList 32 = .ok (.iconst 1, 1) := by decide +kernel
theorem dX6_readList_33 : decode cX6_readList 33 = .ok (.putfield 126, 3) := by decide +kernel
theorem dX6_readList_36 : decode cX6_readList 36 = .ok (.iinc 3 1, 3) := by decide +kernel
theorem dX6_readList_39 : decode cX6_readList 39 = .ok (.iload_n 3, 1) := by decide +kernel
theorem dX6_readList_40 : decode cX6_readList 40 = .ok (.sipush 500, 3) := by decide +kernel
theorem dX6_readList_43 : decode cX6_readList 43 = .ok (.if_icmp .ge 11, 3) := by decide +kernel
theorem dX6_readList_46 : decode cX6_readList 46 = .ok (.aload_n 1, 1) := by decide +kernel
theorem dX6_readList_47 : decode cX6_readList 47 = .ok (.getfield 15, 3) := by decide +kernel
theorem dX6_readList_50 : decode cX6_readList 50 = .ok (.iconst 2, 1) := by decide +kernel
theorem dX6_readList_51 : decode cX6_readList 51 = .ok (.if_icmp .eq (-45), 3) := by decide +kernel
theorem dX6_readList_54 : decode cX6_readList 54 = .ok (.iconst 1, 1) := by decide +kernel
theorem dX6_readList_55 : decode cX6_readList 55 = .ok (.ireturn, 1) := by decide +kernel
theorem dX6_readWait_0 : decode cX6_readWait 0 = .ok (.aload_n 1, 1) := by decide +kernel
theorem dX6_readWait_1 : decode cX6_readWait 1 = .ok (.invokevirtual 68, 3) := by decide +kernel
theorem dX6_readWait_4 : decode cX6_readWait 4 = .ok (.aload_n 0, 1) := by decide +kernel
theorem dX6_readWait_5 : decode cX6_readWait 5 = .ok (.aload_n 1, 1) := by decide +kernel
theorem dX6_readWait_6 : decode cX6_readWait 6 = .ok (.iconst 0, 1) := by decide +kernel
theorem dX6_readWait_7 : decode cX6_readWait 7 = .ok (.aload_n 2, 1) := by decide +kernel
theorem dX6_readWait_8 : decode cX6_readWait 8 = .ok (.getfield 132, 3) := by decide +kernel
theorem dX6_readWait_11 : decode cX6_readWait 11 = .ok (.iconst 1, 1) := by decide +kernel
theorem dX6_readWait_12 : decode cX6_readWait 12 = .ok (.isub, 1) := by decide +kernel
theorem dX6_readWait_13 : decode cX6_readWait 13 = .ok (.invokevirtual 71, 3) := by decide +kernel
theorem dX6_readWait_16 : decode cX6_readWait 16 = .ok (.istore_n 3, 1) := by decide +kernel
theorem dX6_readWait_17 : decode cX6_readWait 17 = .ok (.aload_n 2, 1) := by decide +kernel
theorem dX6_readWait_18 : decode cX6_readWait 18 = .ok (.iload_n 3, 1) := by decide +kernel
theorem dX6_readWait_19 : decode cX6_readWait 19 = .ok (.invokevirtual 135, 3) := by decide +kernel
theorem dX6_readWait_22 : decode cX6_readWait 22 = .ok (.ifCond .ne 5, 3) := by decide +kernel
theorem dX6_readWait_25 : decode cX6_readWait 25 = .ok (.iconst 0, 1) := by decide +kernel
theorem dX6_readWait_26 : decode cX6_readWait 26 = .ok (.ireturn, 1) := by decide +kernel
theorem dX6_readWait_27 : decode cX6_readWait 27 = .ok (.aload_n 1, 1) := by decide +kernel
theorem dX6_readWait_28 : decode cX6_readWait 28 = .ok (.getfield 55, 3) := by decide +kernel
theorem dX6_readWait_31 : decode cX6_readWait 31 = .ok (.istore 4, 2) := by decide +kernel
theorem dX6_readWait_33 : decode cX6_readWait 33 = .ok (.aload_n 1, 1) := by decide +kernel
theorem dX6_readWait_34 : decode cX6_readWait 34 = .ok (.ldc 91, 2) := by decide +kernel
theorem dX6_readWait_36 : decode cX6_readWait 36 = .ok (.invokevirtual 23, 3) := by decide +kernel
theorem dX6_readWait_39 : decode cX6_readWait 39 = .ok (.ifCond .eq 7, 3) := by decide +kernel
theorem dX6_readWait_42 : decode cX6_readWait 42 = .ok (.iconst 0, 1) := by decide +kernel
theorem dX6_readWait_43 : decode cX6_readWait 43 = .ok (.goto 17, 3) := by decide +kernel
theorem dX6_readWait_46 : decode cX6_readWait 46 = .ok (.aload_n 1, 1) := by decide +kernel
theorem dX6_readWait_47 : decode cX6_readWait 47 = .ok (.ldc 89, 2) := by decide +kernel
theorem dX6_readWait_49 : decode cX6_readWait 49 = .ok (.invokevirtual 23, 3) := by decide +kernel
theorem dX6_readWait_52 : decode cX6_readWait 52 = .ok (.ifCond .eq 7, 3) := by decide +kernel
theorem dX6_readWait_55 : decode cX6_readWait 55 = .ok (.iconst 1, 1) := by decide +kernel
theorem dX6_readWait_56 : decode cX6_readWait 56 = .ok (.goto 4, 3) := by decide +kernel
theorem dX6_readWait_59 : decode cX6_readWait 59 = .ok (.iconst (-1), 1) := by decide +kernel
theorem dX6_readWait_60 : decode cX6_readWait 60 = .ok (.istore 5, 2) := by decide +kernel
theorem dX6_readWait_62 : decode cX6_readWait 62 = .ok (.iload 5, 2) := by decide +kernel
theorem dX6_readWait_64 : decode cX6_readWait 64 = .ok (.iconst (-1), 1) := by decide +kernel
theorem dX6_readWait_65 : decode cX6_readWait 65 = .ok (.if_icmp .ne 12, 3) := by decide +kernel
theorem dX6_readWait_68 : decode cX6_readWait 68 = .ok (.aload_n 0, 1) := by decide +kernel
theorem dX6_readWait_69 : decode cX6_readWait 69 = .ok (.bipush (-2), 2) := by decide +kernel
theorem dX6_readWait_71 : decode cX6_readWait 71 = .ok (.iload 4, 2) := by decide +kernel
theorem dX6_readWait_73 : decode cX6_readWait 73 = .ok (.invokevirtual 58, 3) := by decide +kernel
theorem dX6_readWait_76 : decode cX6_readWait 76 = .ok (.ireturn, 1) := by decide +kernel
theorem dX6_readWait_77 : decode cX6_readWait 77 = .ok (.aload_n 1, 1) := by decide +kernel
theorem dX6_readWait_78 : decode cX6_readWait 78 = .ok (.invokevirtual 68, 3) := by decide +kernel
theorem dX6_readWait_81 : decode cX6_readWait 81 = .ok (.iconst (-1), 1) := by decide +kernel
theorem dX6_readWait_82 : decode cX6_readWait 82 = .ok (.istore 6, 2) := by decide +kernel
theorem dX6_readWait_84 : decode cX6_readWait 84 = .ok (.aload_n 1, 1) := by decide +kernel
theorem dX6_readWait_85 : decode cX6_readWait 85 = .ok (.getfield 15, 3) := by decide +kernel
theorem dX6_readWait_88 : decode cX6_readWait 88 = .ok (.iconst 2, 1) := by decide +kernel
theorem dX6_readWait_89 : decode cX6_readWait 89 = .ok (.if_icmp .ne 19, 3) := by decide +kernel
theorem dX6_readWait_92 : decode cX6_readWait 92 = .ok (.aload_n 0, 1) := by decide +kernel
theorem dX6_readWait_93 : decode cX6_readWait 93 = .ok (.aload_n 1, 1) := by decide +kernel
theorem dX6_readWait_94 : decode cX6_readWait 94 = .ok (.aload_n 2, 1) := by decide +kernel
theorem dX6_readWait_95 : decode cX6_readWait 95 = .ok (.invokevirtual 114, 3) := by decide +kernel
theorem dX6_readWait_98 : decode cX6_readWait 98 = .ok (.istore 6, 2) := by decide +kernel
theorem dX6_readWait_100 : decode cX6_readWait 100 = .ok (.iload 6, 2) := by decide +kernel
theorem dX6_readWait_102 : decode cX6_readWait 102 = .ok (.iconst (-1), 1) := by decide +kernel
theorem dX6_readWait_103 : decode cX6_readWait 103 = .ok (.if_icmp .ne 5, 3) := by decide +kernel
theorem dX6_readWait_106 : decode cX6_readWait 106 = .ok (.iconst 0, 1) := by decide +kernel
theorem dX6_readWait_107 : decode cX6_readWait 107 = .ok (.ireturn, 1) := by decide +kernel
theorem dX6_readWait_108 : decode cX6_readWait 108 = .ok (.aload_n 2, 1) := by decide +kernel
theorem dX6_readWait_109 : decode cX6_readWait 109 = .ok (.aload_n 2, 1) := by decide +kernel
theorem dX6_readWait_110 : decode cX6_readWait 110 = .ok (.getfield 138, 3) := by decide +kernel
theorem dX6_readWait_113 : decode cX6_readWait 113 = .ok (.iload_n 3, 1) := by decide +kernel
theorem dX6_readWait_114 : decode cX6_readWait 114 = .ok (.aaload, 1) := by decide +kernel
theorem dX6_readWait_115 : decode cX6_readWait 115 = .ok (.iload 5, 2) := by decide +kernel
theorem dX6_readWait_117 : decode cX6_readWait 117 = .ok (.iload 6, 2) := by decide +kernel
theorem dX6_readWait_119 : decode cX6_readWait 119 = .ok (.invokevirtual 142, 3) := by decide +kernel
theorem dX6_readWait_122 : decode cX6_readWait 122 = .ok (.ifCond .eq 12, 3) := by decide +kernel
theorem dX6_readWait_125 : decode cX6_readWait 125 = .ok (.aload_n 0, 1) := by decide +kernel
theorem dX6_readWait_126 : decode cX6_readWait 126 = .ok (.bipush (-6), 2) := by decide +kernel
theorem dX6_readWait_128 : decode cX6_readWait 128 = .ok (.iload 4, 2) := by decide +kernel
theorem dX6_readWait_130 : decode cX6_readWait 130 = .ok (.invokevirtual 58, 3) := by decide +kernel
theorem dX6_readWait_133 : decode cX6_readWait 133 = .ok (.ireturn, 1) := by decide +kernel
theorem dX6_readWait_134 : decode cX6_readWait 134 = .ok (.aload_n 2, 1) := by decide +kernel
theorem dX6_readWait_135 : decode cX6_readWait 135 = .ok (.getfield 138, 3) := by decide +kernel
theorem dX6_readWait_138 : decode cX6_readWait 138 = .ok (.iload_n 3, 1) := by decide +kernel
theorem dX6_readWait_139 : decode cX6_readWait 139 = .ok (.aaload, 1) := by decide +kernel
theorem dX6_readWait_140 : decode cX6_readWait 140 = .ok (.iload 5, 2) := by decide +kernel
theorem dX6_readWait_142 : decode cX6_readWait 142 = .ok (.invokevirtual 146, 3) := by decide +kernel
theorem dX6_readWait_145 : decode cX6_readWait 145 = .ok (.iload 6, 2) := by decide +kernel
theorem dX6_readWait_147 : decode cX6_readWait 147 = .ok (.invokevirtual 152, 3) := by decide +kernel
theorem dX6_readWait_150 : decode cX6_readWait 150 = .ok (.iconst 1, 1) := by decide +kernel
theorem dX6_readWait_151 : decode cX6_readWait 151 = .ok (.ireturn, 1) := by decide +kernel
theorem dX6_readTick_0 : decode cX6_readTick 0 = .ok (.aload_n 1, 1) := by decide +kernel
theorem dX6_readTick_1 : decode cX6_readTick 1 = .ok (.invokevirtual 68, 3) := by decide +kernel
theorem dX6_readTick_4 : decode cX6_readTick 4 = .ok (.aload_n 0, 1) := by decide +kernel
theorem dX6_readTick_5 : decode cX6_readTick 5 = .ok (.aload_n 1, 1) := by decide +kernel
theorem dX6_readTick_6 : decode cX6_readTick 6 = .ok (.iconst 1, 1) := by decide +kernel
theorem dX6_readTick_7 : decode cX6_readTick 7 = .ok (.bipush 99, 2) := by decide +kernel
theorem dX6_readTick_9 : decode cX6_readTick 9 = .ok (.invokevirtual 71, 3) := by decide +kernel
theorem dX6_readTick_12 : decode cX6_readTick 12 = .ok (.istore_n 3, 1) := by decide +kernel
theorem dX6_readTick_13 : decode cX6_readTick 13 = .ok (.iload_n 3, 1) := by decide +kernel
theorem dX6_readTick_14 : decode cX6_readTick 14 = .ok (.ifCond .ge 5, 3) := by decide +kernel
theorem dX6_readTick_17 : decode cX6_readTick 17 = .ok (.iconst 0, 1) := by decide +kernel
theorem dX6_readTick_18 : decode cX6_readTick 18 = .ok (.ireturn, 1) := by decide +kernel
theorem dX6_readTick_19 : decode cX6_readTick 19 = .ok (.aload_n 2, 1) := by decide +kernel
theorem dX6_readTick_20 : decode cX6_readTick 20 = .ok (.iload_n 3, 1) := by decide +kernel
theorem dX6_readTick_21 : decode cX6_readTick 21 = .ok (.invokevirtual 157, 3) := by decide +kernel
theorem dX6_readTick_24 : decode cX6_readTick 24 = .ok (.iconst 1, 1) := by decide +kernel
theorem dX6_readTick_25 : decode cX6_readTick 25 = .ok (.ireturn, 1) := by decide +kernel
theorem dX6_readKey_0 : decode cX6_readKey 0 = .ok (.aload_n 1, 1) := by decide +kernel
theorem dX6_readKey_1 : decode cX6_readKey 1 = .ok (.invokevirtual 68, 3) := by decide +kernel
theorem dX6_readKey_4 : decode cX6_readKey 4 = .ok (.aload_n 0, 1) := by decide +kernel
theorem dX6_readKey_5 : decode cX6_readKey 5 = .ok (.aload_n 1, 1) := by decide +kernel
theorem dX6_readKey_6 : decode cX6_readKey 6 = .ok (.iconst 0, 1) := by decide +kernel
theorem dX6_readKey_7 : decode cX6_readKey 7 = .ok (.iconst 2, 1) := by decide +kernel
theorem dX6_readKey_8 : decode cX6_readKey 8 = .ok (.invokevirtual 71, 3) := by decide +kernel
theorem dX6_readKey_11 : decode cX6_readKey 11 = .ok (.istore_n 3, 1) := by decide +kernel
theorem dX6_readKey_12 : decode cX6_readKey 12 = .ok (.iload_n 3, 1) := by decide +kernel
theorem dX6_readKey_13 : decode cX6_readKey 13 = .ok (.ifCond .ge 5, 3) := by decide +kernel
theorem dX6_readKey_16 : decode cX6_readKey 16 = .ok (.iconst 0, 1) := by decide +kernel
theorem dX6_readKey_17 : decode cX6_readKey 17 = .ok (.ireturn, 1) := by decide +kernel
theorem dX6_readKey_18 : decode cX6_readKey 18 = .ok (.aload_n 2, 1) := by decide +kernel
theorem dX6_readKey_19 : decode cX6_readKey 19 = .ok (.iload_n 3, 1) := by decide +kernel
theorem dX6_readKey_20 : decode cX6_readKey 20 = .ok (.invokevirtual 160, 3) := by decide +kernel
theorem dX6_readKey_23 : decode cX6_readKey 23 = .ok (.iconst 1, 1) := by decide +kernel
theorem dX6_readKey_24 : decode cX6_readKey 24 = .ok (.ireturn, 1) := by decide +kernel
theorem dX6_takeSemicolon_0 : decode cX6_takeSemicolon 0 = .ok (.aload_n 1, 1) := by decide +kernel
theorem dX6_takeSemicolon_1 : decode cX6_takeSemicolon 1 = .ok (.getfield 15, 3) := by decide +kernel
theorem dX6_takeSemicolon_4 : decode cX6_takeSemicolon 4 = .ok (.iconst 3, 1) := by decide +kernel
theorem dX6_takeSemicolon_5 : decode cX6_takeSemicolon 5 = .ok (.if_icmp .eq 14, 3) := by decide +kernel
theorem dX6_takeSemicolon_8 : decode cX6_takeSemicolon 8 = .ok (.aload_n 0, 1) := by decide +kernel
theorem dX6_takeSemicolon_9 : decode cX6_takeSemicolon 9 = .ok (.bipush (-2), 2) := by decide +kernel
theorem dX6_takeSemicolon_11 : decode cX6_takeSemicolon 11 = .ok (.aload_n 1, 1) := by decide +kernel
theorem dX6_takeSemicolon_12 : decode cX6_takeSemicolon 12 = .ok (.getfield 55, 3) := by decide +kernel
theorem dX6_takeSemicolon_15 : decode cX6_takeSemicolon 15 = .ok (.invokevirtual 58, 3) := by decide +kernel
theorem dX6_takeSemicolon_18 : decode cX6_takeSemicolon 18 = .ok (.ireturn, 1) := by decide +kernel
theorem dX6_takeSemicolon_19 : decode cX6_takeSemicolon 19 = .ok (.aload_n 1, 1) := by decide +kernel
theorem dX6_takeSemicolon_20 : decode cX6_takeSemicolon 20 = .ok (.invokevirtual 68, 3) := by decide +kernel
theorem dX6_takeSemicolon_23 : decode cX6_takeSemicolon 23 = .ok (.iconst 1, 1) := by decide +kernel
theorem dX6_takeSemicolon_24 : decode cX6_takeSemicolon 24 = .ok (.ireturn, 1) := by decide +kernel
theorem dX6_takeNumber_0 : decode cX6_takeNumber 0 = .ok (.aload_n 1, 1) := by decide +kernel
theorem dX6_takeNumber_1 : decode cX6_takeNumber 1 = .ok (.getfield 15, 3) := by decide +kernel
theorem dX6_takeNumber_4 : decode cX6_takeNumber 4 = .ok (.iconst 1, 1) := by decide +kernel
theorem dX6_takeNumber_5 : decode cX6_takeNumber 5 = .ok (.if_icmp .eq 16, 3) := by decide +kernel
theorem dX6_takeNumber_8 : decode cX6_takeNumber 8 = .ok (.aload_n 0, 1) := by decide +kernel
theorem dX6_takeNumber_9 : decode cX6_takeNumber 9 = .ok (.bipush (-2), 2) := by decide +kernel
theorem dX6_takeNumber_11 : decode cX6_takeNumber 11 = .ok (.aload_n 1, 1) := by decide +kernel
theorem dX6_takeNumber_12 : decode cX6_takeNumber 12 = .ok (.getfield 55, 3) := by decide +kernel
theorem dX6_takeNumber_15 : decode cX6_takeNumber 15 = .ok (.invokevirtual 58, 3) := by decide +kernel
theorem dX6_takeNumber_18 : decode cX6_takeNumber 18 = .ok (.pop, 1) := by decide +kernel
theorem dX6_takeNumber_19 : decode cX6_takeNumber 19 = .ok (.iconst (-1), 1) := by decide +kernel
theorem dX6_takeNumber_20 : decode cX6_takeNumber 20 = .ok (.ireturn, 1) := by decide +kernel
theorem dX6_takeNumber_21 : decode cX6_takeNumber 21 = .ok (.aload_n 1, 1) := by decide +kernel
theorem dX6_takeNumber_22 : decode cX6_takeNumber 22 = .ok (.getfield 163, 3) := by decide +kernel
theorem dX6_takeNumber_25 : decode cX6_takeNumber 25 = .ok (.istore 4, 2) := by decide +kernel
theorem dX6_takeNumber_27 : decode cX6_takeNumber 27 = .ok (.iload 4, 2) := by decide +kernel
theorem dX6_takeNumber_29 : decode cX6_takeNumber 29 = .ok (.iload_n 2, 1) := by decide +kernel
theorem dX6_takeNumber_30 : decode cX6_takeNumber 30 = .ok (.if_icmp .lt 9, 3) := by decide +kernel
theorem dX6_takeNumber_33 : decode cX6_takeNumber 33 = .ok (.iload 4, 2) := by decide +kernel
theorem dX6_takeNumber_35 : decode cX6_takeNumber 35 = .ok (.iload_n 3, 1) := by decide +kernel
theorem dX6_takeNumber_36 : decode cX6_takeNumber 36 = .ok (.if_icmp .le 16, 3) := by decide +kernel
theorem dX6_takeNumber_39 : decode cX6_takeNumber 39 = .ok (.aload_n 0, 1) := by decide +kernel
theorem dX6_takeNumber_40 : decode cX6_takeNumber 40 = .ok (.bipush (-3), 2) := by decide +kernel
theorem dX6_takeNumber_42 : decode cX6_takeNumber 42 = .ok (.aload_n 1, 1) := by decide +kernel
theorem dX6_takeNumber_43 : decode cX6_takeNumber 43 = .ok (.getfield 55, 3) := by decide +kernel
theorem dX6_takeNumber_46 : decode cX6_takeNumber 46 = .ok (.invokevirtual 58, 3) := by decide +kernel
theorem dX6_takeNumber_49 : decode cX6_takeNumber 49 = .ok (.pop, 1) := by decide +kernel
theorem dX6_takeNumber_50 : decode cX6_takeNumber 50 = .ok (.iconst (-1), 1) := by decide +kernel
theorem dX6_takeNumber_51 : decode cX6_takeNumber 51 = .ok (.ireturn, 1) := by decide +kernel
theorem dX6_takeNumber_52 : decode cX6_takeNumber 52 = .ok (.aload_n 1, 1) := by decide +kernel
theorem dX6_takeNumber_53 : decode cX6_takeNumber 53 = .ok (.invokevirtual 68, 3) := by decide +kernel
theorem dX6_takeNumber_56 : decode cX6_takeNumber 56 = .ok (.iload 4, 2) := by decide +kernel
theorem dX6_takeNumber_58 : decode cX6_takeNumber 58 = .ok (.ireturn, 1) := by decide +kernel
theorem dX6_takeKnownCard_0 : decode cX6_takeKnownCard 0 = .ok (.aload_n 0, 1) := by decide +kernel
theorem dX6_takeKnownCard_1 : decode cX6_takeKnownCard 1 = .ok (.aload_n 1, 1) := by decide +kernel
theorem dX6_takeKnownCard_2 : decode cX6_takeKnownCard 2 = .ok (.invokevirtual 100, 3) := by decide +kernel
theorem dX6_takeKnownCard_5 : decode cX6_takeKnownCard 5 = .ok (.ifCond .ne 5, 3) := by decide +kernel
theorem dX6_takeKnownCard_8 : decode cX6_takeKnownCard 8 = .ok (.iconst (-1), 1) := by decide +kernel
theorem dX6_takeKnownCard_9 : decode cX6_takeKnownCard 9 = .ok (.ireturn, 1) := by decide +kernel
theorem dX6_takeKnownCard_10 : decode cX6_takeKnownCard 10 = .ok (.aload_n 2, 1) := by decide +kernel
theorem dX6_takeKnownCard_11 : decode cX6_takeKnownCard 11 = .ok (.aload_n 1, 1) := by decide +kernel
theorem dX6_takeKnownCard_12 : decode cX6_takeKnownCard 12 = .ok (.getfield 103, 3) := by decide +kernel
theorem dX6_takeKnownCard_15 : decode cX6_takeKnownCard 15 = .ok (.invokevirtual 106, 3) := by decide +kernel
theorem dX6_takeKnownCard_18 : decode cX6_takeKnownCard 18 = .ok (.istore_n 3, 1) := by decide +kernel
theorem dX6_takeKnownCard_19 : decode cX6_takeKnownCard 19 = .ok (.iload_n 3, 1) := by decide +kernel
theorem dX6_takeKnownCard_20 : decode cX6_takeKnownCard 20 = .ok (.iconst (-1), 1) := by decide +kernel
theorem dX6_takeKnownCard_21 : decode cX6_takeKnownCard 21 = .ok (.if_icmp .ne 16, 3) := by decide +kernel
theorem dX6_takeKnownCard_24 : decode cX6_takeKnownCard 24 = .ok (.aload_n 0, 1) := by decide +kernel
theorem dX6_takeKnownCard_25 : decode cX6_takeKnownCard 25 = .ok (.bipush (-4), 2) := by decide +kernel
theorem dX6_takeKnownCard_27 : decode cX6_takeKnownCard 27 = .ok (.aload_n 1, 1) := by decide +kernel
theorem dX6_takeKnownCard_28 : decode cX6_takeKnownCard 28 = .ok (.getfield 55, 3) := by decide +kernel
theorem dX6_takeKnownCard_31 : decode cX6_takeKnownCard 31 = .ok (.invokevirtual 58, 3) := by decide +kernel
theorem dX6_takeKnownCard_34 : decode cX6_takeKnownCard 34 = .ok (.pop, 1) := by decide +kernel
theorem dX6_takeKnownCard_35 : decode cX6_takeKnownCard 35 = .ok (.iconst (-1), 1) := by decide +kernel
theorem dX6_takeKnownCard_36 : decode cX6_takeKnownCard 36 = .ok (.ireturn, 1) := by decide +kernel
theorem dX6_takeKnownCard_37 : decode cX6_takeKnownCard 37 = .ok (.aload_n 1, 1) := by decide +kernel
theorem dX6_takeKnownCard_38 : decode cX6_takeKnownCard 38 = .ok (.invokevirtual 68, 3) := by decide +kernel
theorem dX6_takeKnownCard_41 : decode cX6_takeKnownCard 41 = .ok (.iload_n 3, 1) := by decide +kernel
theorem dX6_takeKnownCard_42 : decode cX6_takeKnownCard 42 = .ok (.ireturn, 1) := by decide +kernel
theorem dX6_isNameNext_0 : decode cX6_isNameNext 0 = .ok (.aload_n 1, 1) := by decide +kernel
theorem dX6_isNameNext_1 : decode cX6_isNameNext 1 = .ok (.getfield 15, 3) := by decide +kernel
theorem dX6_isNameNext_4 : decode cX6_isNameNext 4 = .ok (.iconst 2, 1) := by decide +kernel
theorem dX6_isNameNext_5 : decode cX6_isNameNext 5 = .ok (.if_icmp .eq 14, 3) := by decide +kernel
theorem dX6_isNameNext_8 : decode cX6_isNameNext 8 = .ok (.aload_n 0, 1) := by decide +kernel
theorem dX6_isNameNext_9 : decode cX6_isNameNext 9 = .ok (.bipush (-2), 2) := by decide +kernel
theorem dX6_isNameNext_11 : decode cX6_isNameNext 11 = .ok (.aload_n 1, 1) := by decide +kernel
theorem dX6_isNameNext_12 : decode cX6_isNameNext 12 = .ok (.getfield 55, 3) := by decide +kernel
theorem dX6_isNameNext_15 : decode cX6_isNameNext 15 = .ok (.invokevirtual 58, 3) := by decide +kernel
theorem dX6_isNameNext_18 : decode cX6_isNameNext 18 = .ok (.ireturn, 1) := by decide +kernel
theorem dX6_isNameNext_19 : decode cX6_isNameNext 19 = .ok (.aload_n 1, 1) := by decide +kernel
theorem dX6_isNameNext_20 : decode cX6_isNameNext 20 = .ok (.getfield 166, 3) := by decide +kernel
theorem dX6_isNameNext_23 : decode cX6_isNameNext 23 = .ok (.bipush 6, 2) := by decide +kernel
theorem dX6_isNameNext_25 : decode cX6_isNameNext 25 = .ok (.if_icmp .le 14, 3) := by decide +kernel
theorem dX6_isNameNext_28 : decode cX6_isNameNext 28 = .ok (.aload_n 0, 1) := by decide +kernel
theorem dX6_isNameNext_29 : decode cX6_isNameNext 29 = .ok (.bipush (-3), 2) := by decide +kernel
theorem dX6_isNameNext_31 : decode cX6_isNameNext 31 = .ok (.aload_n 1, 1) := by decide +kernel
theorem dX6_isNameNext_32 : decode cX6_isNameNext 32 = .ok (.getfield 55, 3) := by decide +kernel
theorem dX6_isNameNext_35 : decode cX6_isNameNext 35 = .ok (.invokevirtual 58, 3) := by decide +kernel
theorem dX6_isNameNext_38 : decode cX6_isNameNext 38 = .ok (.ireturn, 1) := by decide +kernel
theorem dX6_isNameNext_39 : decode cX6_isNameNext 39 = .ok (.iconst 1, 1) := by decide +kernel
theorem dX6_isNameNext_40 : decode cX6_isNameNext 40 = .ok (.ireturn, 1) := by decide +kernel
theorem dX6_fail_0 : decode cX6_fail 0 = .ok (.aload_n 0, 1) := by decide +kernel
theorem dX6_fail_1 : decode cX6_fail 1 = .ok (.iload_n 1, 1) := by decide +kernel
theorem dX6_fail_2 : decode cX6_fail 2 = .ok (.putfield 169, 3) := by decide +kernel
theorem dX6_fail_5 : decode cX6_fail 5 = .ok (.aload_n 0, 1) := by decide +kernel
theorem dX6_fail_6 : decode cX6_fail 6 = .ok (.iload_n 2, 1) := by decide +kernel
theorem dX6_fail_7 : decode cX6_fail 7 = .ok (.putfield 172, 3) := by decide +kernel
theorem dX6_fail_10 : decode cX6_fail 10 = .ok (.iconst 0, 1) := by decide +kernel
theorem dX6_fail_11 : decode cX6_fail 11 = .ok (.ireturn, 1) := by decide +kernel
theorem dX7_init_0 : decode cX7_init 0 = .ok (.aload_n 0, 1) := by decide +kernel
theorem dX7_init_1 : decode cX7_init 1 = .ok (.invokespecial 1, 3) := by decide +kernel
theorem dX7_init_4 : decode cX7_init 4 = .ok (.aload_n 0, 1) := by decide +kernel
theorem dX7_init_5 : decode cX7_init 5 = .ok (.new 7, 3) := by decide +kernel
theorem dX7_init_8 : decode cX7_init 8 = .ok (.dup, 1) := by decide +kernel
theorem dX7_init_9 : decode cX7_init 9 = .ok (.invokespecial 9, 3) := by decide +kernel
theorem dX7_init_12 : decode cX7_init 12 = .ok (.putfield 10, 3) := by decide +kernel
theorem dX7_init_15 : decode cX7_init 15 = .ok (.aload_n 0, 1) := by decide +kernel
theorem dX7_init_16 : decode cX7_init 16 = .ok (.new 16, 3) := by decide +kernel
theorem dX7_init_19 : decode cX7_init 19 = .ok (.dup, 1) := by decide +kernel
theorem dX7_init_20 : decode cX7_init 20 = .ok (.invokespecial 18, 3) := by decide +kernel
theorem dX7_init_23 : decode cX7_init 23 = .ok (.putfield 19, 3) := by decide +kernel
theorem dX7_init_26 : decode cX7_init 26 = .ok (.aload_n 0, 1) := by decide +kernel
theorem dX7_init_27 : decode cX7_init 27 = .ok (.new 23, 3) := by decide +kernel
theorem dX7_init_30 : decode cX7_init 30 = .ok (.dup, 1) := by decide +kernel
theorem dX7_init_31 : decode cX7_init 31 = .ok (.invokespecial 25, 3) := by decide +kernel
theorem dX7_init_34 : decode cX7_init 34 = .ok (.putfield 26, 3) := by decide +kernel
theorem dX7_init_37 : decode cX7_init 37 = .ok (.aload_n 0, 1) := by decide +kernel
theorem dX7_init_38 : decode cX7_init 38 = .ok (.new 23, 3) := by decide +kernel
theorem dX7_init_41 : decode cX7_init 41 = .ok (.dup, 1) := by decide +kernel
theorem dX7_init_42 : decode cX7_init 42 = .ok (.invokespecial 25, 3) := by decide +kernel
theorem dX7_init_45 : decode cX7_init 45 = .ok (.putfield 30, 3) := by decide +kernel
theorem dX7_init_48 : decode cX7_init 48 = .ok (.aload_n 0, 1) := by decide +kernel
theorem dX7_init_49 : decode cX7_init 49 = .ok (.new 23, 3) := by decide +kernel
theorem dX7_init_52 : decode cX7_init 52 = .ok (.dup, 1) := by decide +kernel
theorem dX7_init_53 : decode cX7_init 53 = .ok (.invokespecial 25, 3) := by decide +kernel
theorem dX7_init_56 : decode cX7_init 56 = .ok (.putfield 33, 3) := by decide +kernel
theorem dX7_init_59 : decode cX7_init 59 = .ok (.aload_n 0, 1) := by decide +kernel
theorem dX7_init_60 : decode cX7_init 60 = .ok (.new 36, 3) := by decide +kernel
theorem dX7_init_63 : decode cX7_init 63 = .ok (.dup, 1) := by decide +kernel
theorem dX7_init_64 : decode cX7_init 64 = .ok (.invokespecial 38, 3) := by decide +kernel
theorem dX7_init_67 : decode cX7_init 67 = .ok (.putfield 39, 3) := by decide +kernel
theorem dX7_init_70 : decode cX7_init 70 = .ok (.aload_n 0, 1) := by decide +kernel
theorem dX7_init_71 : decode cX7_init 71 = .ok (.iconst (-1), 1) := by decide +kernel
theorem dX7_init_72 : decode cX7_init 72 = .ok (.putfield 43, 3) := by decide +kernel
theorem dX7_init_75 : decode cX7_init 75 = .ok (.return_, 1) := by decide +kernel
theorem dX7_append_0 : decode cX7_append 0 = .ok (.aload_n 0, 1) := by decide +kernel
theorem dX7_append_1 : decode cX7_append 1 = .ok (.getfield 10, 3) := by decide +kernel
theorem dX7_append_4 : decode cX7_append 4 = .ok (.getfield 47, 3) := by decide +kernel
theorem dX7_append_7 : decode cX7_append 7 = .ok (.sipush 480, 3) := by decide +kernel
theorem dX7_append_10 : decode cX7_append 10 = .ok (.if_icmp .le 5, 3) := by decide +kernel
theorem dX7_append_13 : decode cX7_append 13 = .ok (.iconst (-1), 1) := by decide +kernel
theorem dX7_append_14 : decode cX7_append 14 = .ok (.ireturn, 1) := by decide +kernel
theorem dX7_append_15 : decode cX7_append 15 = .ok (.aload_n 0, 1) := by decide +kernel
theorem dX7_append_16 : decode cX7_append 16 = .ok (.getfield 10, 3) := by decide +kernel
theorem dX7_append_19 : decode cX7_append 19 = .ok (.iload_n 1, 1) := by decide +kernel
theorem dX7_append_20 : decode cX7_append 20 = .ok (.invokevirtual 50, 3) := by decide +kernel
theorem dX7_append_23 : decode cX7_append 23 = .ok (.aload_n 0, 1) := by decide +kernel
theorem dX7_append_24 : decode cX7_append 24 = .ok (.getfield 10, 3) := by decide +kernel
theorem dX7_append_27 : decode cX7_append 27 = .ok (.iload_n 2, 1) := by decide +kernel
theorem dX7_append_28 : decode cX7_append 28 = .ok (.invokevirtual 50, 3) := by decide +kernel
theorem dX7_append_31 : decode cX7_append 31 = .ok (.aload_n 0, 1) := by decide +kernel
theorem dX7_append_32 : decode cX7_append 32 = .ok (.getfield 10, 3) := by decide +kernel
theorem dX7_append_35 : decode cX7_append 35 = .ok (.iload_n 3, 1) := by decide +kernel
theorem dX7_append_36 : decode cX7_append 36 = .ok (.invokevirtual 50, 3) := by decide +kernel
theorem dX7_append_39 : decode cX7_append 39 = .ok (.aload_n 0, 1) := by decide +kernel
theorem dX7_append_40 : decode cX7_append 40 = .ok (.getfield 10, 3) := by decide +kernel
theorem dX7_append_43 : decode cX7_append 43 = .ok (.iload 4, 2) := by decide +kernel
theorem dX7_append_45 : decode cX7_append 45 = .ok (.invokevirtual 50, 3) := by decide +kernel
theorem dX7_append_48 : decode cX7_append 48 = .ok (.aload_n 0, 1) := by decide +kernel
theorem dX7_append_49 : decode cX7_append 49 = .ok (.getfield 10, 3) := by decide +kernel
theorem dX7_append_52 : decode cX7_append 52 = .ok (.iload 5, 2) := by decide +kernel
theorem dX7_append_54 : decode cX7_append 54 = .ok (.invokevirtual 50, 3) := by decide +kernel
theorem dX7_append_57 : decode cX7_append 57 = .ok (.aload_n 0, 1) := by decide +kernel
theorem dX7_append_58 : decode cX7_append 58 = .ok (.getfield 10, 3) := by decide +kernel
theorem dX7_append_61 : decode cX7_append 61 = .ok (.getfield 47, 3) := by decide +kernel
theorem dX7_append_64 : decode cX7_append 64 = .ok (.ireturn, 1) := by decide +kernel
theorem dX7_load_0 : decode cX7_load 0 = .ok (.aload_n 0, 1) := by decide +kernel
theorem dX7_load_1 : decode cX7_load 1 = .ok (.iload_n 1, 1) := by decide +kernel
theorem dX7_load_2 : decode cX7_load 2 = .ok (.invokevirtual 54, 3) := by decide +kernel
theorem dX7_load_5 : decode cX7_load 5 = .ok (.aload_n 0, 1) := by decide +kernel
theorem dX7_load_6 : decode cX7_load 6 = .ok (.getfield 33, 3) := by decide +kernel
theorem dX7_load_9 : decode cX7_load 9 = .ok (.aload_n 0, 1) := by decide +kernel
theorem dX7_load_10 : decode cX7_load 10 = .ok (.getfield 30, 3) := by decide +kernel
theorem dX7_load_13 : decode cX7_load 13 = .ok (.invokevirtual 57, 3) := by decide +kernel
theorem dX7_load_16 : decode cX7_load 16 = .ok (.aload_n 0, 1) := by decide +kernel
theorem dX7_load_17 : decode cX7_load 17 = .ok (.getfield 10, 3) := by decide +kernel
theorem dX7_load_20 : decode cX7_load 20 = .ok (.iload_n 1, 1) := by decide +kernel
theorem dX7_load_21 : decode cX7_load 21 = .ok (.invokevirtual 61, 3) := by decide +kernel
theorem dX7_load_24 : decode cX7_load 24 = .ok (.aload_n 0, 1) := by decide +kernel
theorem dX7_load_25 : decode cX7_load 25 = .ok (.getfield 19, 3) := by decide +kernel
theorem dX7_load_28 : decode cX7_load 28 = .ok (.aload_n 0, 1) := by decide +kernel
theorem dX7_load_29 : decode cX7_load 29 = .ok (.getfield 10, 3) := by decide +kernel
theorem dX7_load_32 : decode cX7_load 32 = .ok (.aload_n 0, 1) := by decide +kernel
theorem dX7_load_33 : decode cX7_load 33 = .ok (.getfield 33, 3) := by decide +kernel
theorem dX7_load_36 : decode cX7_load 36 = .ok (.invokevirtual 64, 3) := by decide +kernel
theorem dX7_load_39 : decode cX7_load 39 = .ok (.istore_n 2, 1) := by decide +kernel
theorem dX7_load_40 : decode cX7_load 40 = .ok (.aload_n 0, 1) := by decide +kernel
theorem dX7_load_41 : decode cX7_load 41 = .ok (.getfield 10, 3) := by decide +kernel
theorem dX7_load_44 : decode cX7_load 44 = .ok (.iconst 0, 1) := by decide +kernel
theorem dX7_load_45 : decode cX7_load 45 = .ok (.putfield 47, 3) := by decide +kernel
theorem dX7_load_48 : decode cX7_load 48 = .ok (.iload_n 2, 1) := by decide +kernel
theorem dX7_load_49 : decode cX7_load 49 = .ok (.ifCond .ne 22, 3) := by decide +kernel
theorem dX7_load_52 : decode cX7_load 52 = .ok (.aload_n 0, 1) := by decide +kernel
theorem dX7_load_53 : decode cX7_load 53 = .ok (.aload_n 0, 1) := by decide +kernel
theorem dX7_load_54 : decode cX7_load 54 = .ok (.getfield 19, 3) := by decide +kernel
theorem dX7_load_57 : decode cX7_load 57 = .ok (.getfield 68, 3) := by decide +kernel
theorem dX7_load_60 : decode cX7_load 60 = .ok (.putfield 43, 3) := by decide +kernel
theorem dX7_load_63 : decode cX7_load 63 = .ok (.aload_n 0, 1) := by decide +kernel
theorem dX7_load_64 : decode cX7_load 64 = .ok (.getfield 19, 3) := by decide +kernel
theorem dX7_load_67 : decode cX7_load 67 = .ok (.getfield 69, 3) := by decide +kernel
theorem dX7_load_70 : decode cX7_load 70 = .ok (.ireturn, 1) := by decide +kernel
theorem dX7_load_71 : decode cX7_load 71 = .ok (.aload_n 0, 1) := by decide +kernel
theorem dX7_load_72 : decode cX7_load 72 = .ok (.iconst (-1), 1) := by decide +kernel
theorem dX7_load_73 : decode cX7_load 73 = .ok (.putfield 43, 3) := by decide +kernel
theorem dX7_load_76 : decode cX7_load 76 = .ok (.aload_n 0, 1) := by decide +kernel
theorem dX7_load_77 : decode cX7_load 77 = .ok (.getfield 39, 3) := by decide +kernel
theorem dX7_load_80 : decode cX7_load 80 = .ok (.aload_n 0, 1) := by decide +kernel
theorem dX7_load_81 : decode cX7_load 81 = .ok (.getfield 26, 3) := by decide +kernel
theorem dX7_load_84 : decode cX7_load 84 = .ok (.invokevirtual 72, 3) := by decide +kernel
theorem dX7_load_87 : decode cX7_load 87 = .ok (.aload_n 0, 1) := by decide +kernel
theorem dX7_load_88 : decode cX7_load 88 = .ok (.getfield 26, 3) := by decide +kernel
theorem dX7_load_91 : decode cX7_load 91 = .ok (.aload_n 0, 1) := by decide +kernel
theorem dX7_load_92 : decode cX7_load 92 = .ok (.getfield 33, 3) := by decide +kernel
theorem dX7_load_95 : decode cX7_load 95 = .ok (.invokevirtual 57, 3) := by decide +kernel
theorem dX7_load_98 : decode cX7_load 98 = .ok (.aload_n 0, 1) := by decide +kernel
theorem dX7_load_99 : decode cX7_load 99 = .ok (.getfield 26, 3) := by decide +kernel
theorem dX7_load_102 : decode cX7_load 102 = .ok (.getfield 75, 3) := by decide +kernel
theorem dX7_load_105 : decode cX7_load 105 = .ok (.ireturn, 1) := by decide +kernel
theorem dX7_errorOffset_0 : decode cX7_errorOffset 0 = .ok (.aload_n 0, 1) := by decide +kernel
theorem dX7_errorOffset_1 : decode cX7_errorOffset 1 = .ok (.getfield 43, 3) := by decide +kernel
theorem dX7_errorOffset_4 : decode cX7_errorOffset 4 = .ok (.ireturn, 1) := by decide +kernel
theorem dX7_state_0 : decode cX7_state 0 = .ok (.iload_n 1, 1) := by decide +kernel
theorem dX7_state_1 : decode cX7_state 1 = .ok (.ifCond .lt 9, 3) := by decide +kernel
theorem dX7_state_4 : decode cX7_state 4 = .ok (.iload_n 1, 1) := by decide +kernel
theorem dX7_state_5 : decode cX7_state 5 = .ok (.bipush 16, 2) := by decide +kernel
theorem dX7_state_7 : decode cX7_state 7 = .ok (.if_icmp .lt 13, 3) := by decide +kernel
theorem dX7_state_10 : decode cX7_state 10 = .ok (.new 78, 3) := by decide +kernel
theorem dX7_state_13 : decode cX7_state 13 = .ok (.dup, 1) := by decide +kernel
theorem dX7_state_14 : decode cX7_state 14 = .ok (.ldc 80, 2) := by decide +kernel
theorem dX7_state_16 : decode cX7_state 16 = .ok (.invokespecial 82, 3) := by decide +kernel
theorem dX7_state_19 : decode cX7_state 19 = .ok (.athrow, 1) := by decide +kernel
theorem dX7_state_20 : decode cX7_state 20 = .ok (.aload_n 0, 1) := by decide +kernel
theorem dX7_state_21 : decode cX7_state 21 = .ok (.getfield 26, 3) := by decide +kernel
theorem dX7_state_24 : decode cX7_state 24 = .ok (.iload_n 1, 1) := by decide +kernel
theorem dX7_state_25 : decode cX7_state 25 = .ok (.invokevirtual 85, 3) := by decide +kernel
theorem dX7_state_28 : decode cX7_state 28 = .ok (.ireturn, 1) := by decide +kernel
theorem dX7_find_0 : decode cX7_find 0 = .ok (.aload_n 0, 1) := by decide +kernel
theorem dX7_find_1 : decode cX7_find 1 = .ok (.iload_n 1, 1) := by decide +kernel
theorem dX7_find_2 : decode cX7_find 2 = .ok (.invokevirtual 54, 3) := by decide +kernel
theorem dX7_find_5 : decode cX7_find 5 = .ok (.aload_n 0, 1) := by decide +kernel
theorem dX7_find_6 : decode cX7_find 6 = .ok (.getfield 26, 3) := by decide +kernel
theorem dX7_find_9 : decode cX7_find 9 = .ok (.aload_n 0, 1) := by decide +kernel
theorem dX7_find_10 : decode cX7_find 10 = .ok (.getfield 10, 3) := by decide +kernel
theorem dX7_find_13 : decode cX7_find 13 = .ok (.iload_n 1, 1) := by decide +kernel
theorem dX7_find_14 : decode cX7_find 14 = .ok (.invokevirtual 89, 3) := by decide +kernel
theorem dX7_find_17 : decode cX7_find 17 = .ok (.invokevirtual 92, 3) := by decide +kernel
theorem dX7_find_20 : decode cX7_find 20 = .ok (.ireturn, 1) := by decide +kernel
theorem dX7_gate_0 : decode cX7_gate 0 = .ok (.aload_n 0, 1) := by decide +kernel
theorem dX7_gate_1 : decode cX7_gate 1 = .ok (.iload_n 1, 1) := by decide +kernel
theorem dX7_gate_2 : decode cX7_gate 2 = .ok (.invokevirtual 95, 3) := by decide +kernel
theorem dX7_gate_5 : decode cX7_gate 5 = .ok (.iload_n 2, 1) := by decide +kernel
theorem dX7_gate_6 : decode cX7_gate 6 = .ok (.ifCond .lt 9, 3) := by decide +kernel
theorem dX7_gate_9 : decode cX7_gate 9 = .ok (.iload_n 2, 1) := by decide +kernel
theorem dX7_gate_10 : decode cX7_gate 10 = .ok (.bipush 9, 2) := by decide +kernel
theorem dX7_gate_12 : decode cX7_gate 12 = .ok (.if_icmp .lt 13, 3) := by decide +kernel
theorem dX7_gate_15 : decode cX7_gate 15 = .ok (.new 78, 3) := by decide +kernel
theorem dX7_gate_18 : decode cX7_gate 18 = .ok (.dup, 1) := by decide +kernel
theorem dX7_gate_19 : decode cX7_gate 19 = .ok (.ldc 80, 2) := by decide +kernel
theorem dX7_gate_21 : decode cX7_gate 21 = .ok (.invokespecial 82, 3) := by decide +kernel
theorem dX7_gate_24 : decode cX7_gate 24 = .ok (.athrow, 1) := by decide +kernel
theorem dX7_gate_25 : decode cX7_gate 25 = .ok (.aload_n 0, 1) := by decide +kernel
theorem dX7_gate_26 : decode cX7_gate 26 = .ok (.getfield 26, 3) := by decide +kernel
theorem dX7_gate_29 : decode cX7_gate 29 = .ok (.getfield 98, 3) := by decide +kernel
theorem dX7_gate_32 : decode cX7_gate 32 = .ok (.iload_n 1, 1) := by decide +kernel
theorem dX7_gate_33 : decode cX7_gate 33 = .ok (.aaload, 1) := by decide +kernel
theorem dX7_gate_34 : decode cX7_gate 34 = .ok (.iload_n 2, 1) := by decide +kernel
theorem dX7_gate_35 : decode cX7_gate 35 = .ok (.invokevirtual 102, 3) := by decide +kernel
theorem dX7_gate_38 : decode cX7_gate 38 = .ok (.ireturn, 1) := by decide +kernel
theorem dX7_card_0 : decode cX7_card 0 = .ok (.aload_n 0, 1) := by decide +kernel
theorem dX7_card_1 : decode cX7_card 1 = .ok (.iload_n 1, 1) := by decide +kernel
theorem dX7_card_2 : decode cX7_card 2 = .ok (.invokevirtual 107, 3) := by decide +kernel
theorem dX7_card_5 : decode cX7_card 5 = .ok (.iload_n 2, 1) := by decide +kernel
theorem dX7_card_6 : decode cX7_card 6 = .ok (.ifCond .lt 9, 3) := by decide +kernel
theorem dX7_card_9 : decode cX7_card 9 = .ok (.iload_n 2, 1) := by decide +kernel
theorem dX7_card_10 : decode cX7_card 10 = .ok (.bipush 7, 2) := by decide +kernel
theorem dX7_card_12 : decode cX7_card 12 = .ok (.if_icmp .lt 13, 3) := by decide +kernel
theorem dX7_card_15 : decode cX7_card 15 = .ok (.new 78, 3) := by decide +kernel
theorem dX7_card_18 : decode cX7_card 18 = .ok (.dup, 1) := by decide +kernel
theorem dX7_card_19 : decode cX7_card 19 = .ok (.ldc 80, 2) := by decide +kernel
theorem dX7_card_21 : decode cX7_card 21 = .ok (.invokespecial 82, 3) := by decide +kernel
theorem dX7_card_24 : decode cX7_card 24 = .ok (.athrow, 1) := by decide +kernel
theorem dX7_card_25 : decode cX7_card 25 = .ok (.aload_n 0, 1) := by decide +kernel
theorem dX7_card_26 : decode cX7_card 26 = .ok (.getfield 26, 3) := by decide +kernel
theorem dX7_card_29 : decode cX7_card 29 = .ok (.iload_n 1, 1) := by decide +kernel
theorem dX7_card_30 : decode cX7_card 30 = .ok (.iload_n 2, 1) := by decide +kernel
theorem dX7_card_31 : decode cX7_card 31 = .ok (.invokevirtual 110, 3) := by decide +kernel
theorem dX7_card_34 : decode cX7_card 34 = .ok (.ireturn, 1) := by decide +kernel
theorem dX7_inLine_0 : decode cX7_inLine 0 = .ok (.aload_n 0, 1) := by decide +kernel
theorem dX7_inLine_1 : decode cX7_inLine 1 = .ok (.iload_n 1, 1) := by decide +kernel
theorem dX7_inLine_2 : decode cX7_inLine 2 = .ok (.invokevirtual 95, 3) := by decide +kernel
theorem dX7_inLine_5 : decode cX7_inLine 5 = .ok (.iload_n 2, 1) := by decide +kernel
theorem dX7_inLine_6 : decode cX7_inLine 6 = .ok (.invokestatic 114, 3) := by decide +kernel
theorem dX7_inLine_9 : decode cX7_inLine 9 = .ok (.aload_n 0, 1) := by decide +kernel
theorem dX7_inLine_10 : decode cX7_inLine 10 = .ok (.getfield 26, 3) := by decide +kernel
theorem dX7_inLine_13 : decode cX7_inLine 13 = .ok (.getfield 98, 3) := by decide +kernel
theorem dX7_inLine_16 : decode cX7_inLine 16 = .ok (.iload_n 1, 1) := by decide +kernel
theorem dX7_inLine_17 : decode cX7_inLine 17 = .ok (.aaload, 1) := by decide +kernel
theorem dX7_inLine_18 : decode cX7_inLine 18 = .ok (.iload_n 2, 1) := by decide +kernel
theorem dX7_inLine_19 : decode cX7_inLine 19 = .ok (.invokevirtual 117, 3) := by decide +kernel
theorem dX7_inLine_22 : decode cX7_inLine 22 = .ok (.astore 4, 2) := by decide +kernel
theorem dX7_inLine_24 : decode cX7_inLine 24 = .ok (.aload 4, 2) := by decide +kernel
theorem dX7_inLine_26 : decode cX7_inLine 26 = .ok (.iload_n 3, 1) := by decide +kernel
theorem dX7_inLine_27 : decode cX7_inLine 27 = .ok (.invokevirtual 121, 3) := by decide +kernel
theorem dX7_inLine_30 : decode cX7_inLine 30 = .ok (.ifCond .ne 13, 3) := by decide +kernel
theorem dX7_inLine_33 : decode cX7_inLine 33 = .ok (.new 127, 3) := by decide +kernel
theorem dX7_inLine_36 : decode cX7_inLine 36 = .ok (.dup, 1) := by decide +kernel
theorem dX7_inLine_37 : decode cX7_inLine 37 = .ok (.ldc 129, 2) := by decide +kernel
theorem dX7_inLine_39 : decode cX7_inLine 39 = .ok (.invokespecial 131, 3) := by decide +kernel
theorem dX7_inLine_42 : decode cX7_inLine 42 = .ok (.athrow, 1) := by decide +kernel
theorem dX7_inLine_43 : decode cX7_inLine 43 = .ok (.aload 4, 2) := by decide +kernel
theorem dX7_inLine_45 : decode cX7_inLine 45 = .ok (.iload_n 3, 1) := by decide +kernel
theorem dX7_inLine_46 : decode cX7_inLine 46 = .ok (.invokevirtual 132, 3) := by decide +kernel
theorem dX7_inLine_49 : decode cX7_inLine 49 = .ok (.ireturn, 1) := by decide +kernel
theorem dX7_why_0 : decode cX7_why 0 = .ok (.aload_n 0, 1) := by decide +kernel
theorem dX7_why_1 : decode cX7_why 1 = .ok (.iload_n 1, 1) := by decide +kernel
theorem dX7_why_2 : decode cX7_why 2 = .ok (.invokevirtual 107, 3) := by decide +kernel
theorem dX7_why_5 : decode cX7_why 5 = .ok (.iload_n 2, 1) := by decide +kernel
theorem dX7_why_6 : decode cX7_why 6 = .ok (.invokestatic 114, 3) := by decide +kernel
theorem dX7_why_9 : decode cX7_why 9 = .ok (.aload_n 0, 1) := by decide +kernel
theorem dX7_why_10 : decode cX7_why 10 = .ok (.getfield 26, 3) := by decide +kernel
theorem dX7_why_13 : decode cX7_why 13 = .ok (.getfield 135, 3) := by decide +kernel
theorem dX7_why_16 : decode cX7_why 16 = .ok (.iload_n 1, 1) := by decide +kernel
theorem dX7_why_17 : decode cX7_why 17 = .ok (.aaload, 1) := by decide +kernel
theorem dX7_why_18 : decode cX7_why 18 = .ok (.iload_n 2, 1) := by decide +kernel
theorem dX7_why_19 : decode cX7_why 19 = .ok (.invokevirtual 139, 3) := by decide +kernel
theorem dX7_why_22 : decode cX7_why 22 = .ok (.ireturn, 1) := by decide +kernel
theorem dX7_whyNotJoin_0 : decode cX7_whyNotJoin 0 = .ok (.aload_n 0, 1) := by decide +kernel
theorem dX7_whyNotJoin_1 : decode cX7_whyNotJoin 1 = .ok (.iload_n 1, 1) := by decide +kernel
theorem dX7_whyNotJoin_2 : decode cX7_whyNotJoin 2 = .ok (.invokevirtual 95, 3) := by decide +kernel
theorem dX7_whyNotJoin_5 : decode cX7_whyNotJoin 5 = .ok (.aload_n 0, 1) := by decide +kernel
theorem dX7_whyNotJoin_6 : decode cX7_whyNotJoin 6 = .ok (.iload_n 3, 1) := by decide +kernel
theorem dX7_whyNotJoin_7 : decode cX7_whyNotJoin 7 = .ok (.invokevirtual 144, 3) := by decide +kernel
theorem dX7_whyNotJoin_10 : decode cX7_whyNotJoin 10 = .ok (.iload_n 2, 1) := by decide +kernel
theorem dX7_whyNotJoin_11 : decode cX7_whyNotJoin 11 = .ok (.invokestatic 114, 3) := by decide +kernel
theorem dX7_whyNotJoin_14 : decode cX7_whyNotJoin 14 = .ok (.aload_n 0, 1) := by decide +kernel
theorem dX7_whyNotJoin_15 : decode cX7_whyNotJoin 15 = .ok (.getfield 26, 3) := by decide +kernel
theorem dX7_whyNotJoin_18 : decode cX7_whyNotJoin 18 = .ok (.aload_n 0, 1) := by decide +kernel
theorem dX7_whyNotJoin_19 : decode cX7_whyNotJoin 19 = .ok (.getfield 26, 3) := by decide +kernel
theorem dX7_whyNotJoin_22 : decode cX7_whyNotJoin 22 = .ok (.getfield 98, 3) := by decide +kernel
theorem dX7_whyNotJoin_25 : decode cX7_whyNotJoin 25 = .ok (.iload_n 1, 1) := by decide +kernel
theorem dX7_whyNotJoin_26 : decode cX7_whyNotJoin 26 = .ok (.aaload, 1) := by decide +kernel
theorem dX7_whyNotJoin_27 : decode cX7_whyNotJoin 27 = .ok (.iload_n 2, 1) := by decide +kernel
theorem dX7_whyNotJoin_28 : decode cX7_whyNotJoin 28 = .ok (.iload_n 3, 1) := by decide +kernel
theorem dX7_whyNotJoin_29 : decode cX7_whyNotJoin 29 = .ok (.invokevirtual 147, 3) := by decide +kernel
theorem dX7_whyNotJoin_32 : decode cX7_whyNotJoin 32 = .ok (.ireturn, 1) := by decide +kernel
theorem dX7_bestGate_0 : decode cX7_bestGate 0 = .ok (.iload_n 1, 1) := by decide +kernel
theorem dX7_bestGate_1 : decode cX7_bestGate 1 = .ok (.invokestatic 114, 3) := by decide +kernel
theorem dX7_bestGate_4 : decode cX7_bestGate 4 = .ok (.iconst (-1), 1) := by decide +kernel
theorem dX7_bestGate_5 : decode cX7_bestGate 5 = .ok (.istore_n 2, 1) := by decide +kernel
theorem dX7_bestGate_6 : decode cX7_bestGate 6 = .ok (.bipush 11, 2) := by decide +kernel
theorem dX7_bestGate_8 : decode cX7_bestGate 8 = .ok (.istore_n 3, 1) := by decide +kernel
theorem dX7_bestGate_9 : decode cX7_bestGate 9 = .ok (.iconst 0, 1) := by decide +kernel
theorem dX7_bestGate_10 : decode cX7_bestGate 10 = .ok (.istore 4, 2) := by decide +kernel
theorem dX7_bestGate_12 : decode cX7_bestGate 12 = .ok (.iload 4, 2) := by decide +kernel
theorem dX7_bestGate_14 : decode cX7_bestGate 14 = .ok (.aload_n 0, 1) := by decide +kernel
theorem dX7_bestGate_15 : decode cX7_bestGate 15 = .ok (.getfield 26, 3) := by decide +kernel
theorem dX7_bestGate_18 : decode cX7_bestGate 18 = .ok (.getfield 75, 3) := by decide +kernel
theorem dX7_bestGate_21 : decode cX7_bestGate 21 = .ok (.if_icmp .ge 69, 3) := by decide +kernel
theorem dX7_bestGate_24 : decode cX7_bestGate 24 = .ok (.iload 4, 2) := by decide +kernel
theorem dX7_bestGate_26 : decode cX7_bestGate 26 = .ok (.aload_n 0, 1) := by decide +kernel
theorem dX7_bestGate_27 : decode cX7_bestGate 27 = .ok (.getfield 26, 3) := by decide +kernel
theorem dX7_bestGate_30 : decode cX7_bestGate 30 = .ok (.getfield 98, 3) := by decide +kernel
theorem dX7_bestGate_33 : decode cX7_bestGate 33 = .ok (.arraylength, 1) := by decide +kernel
theorem dX7_bestGate_34 : decode cX7_bestGate 34 = .ok (.if_icmp .ge 56, 3) := by decide +kernel
theorem dX7_bestGate_37 : decode cX7_bestGate 37 = .ok (.aload_n 0, 1) := by decide +kernel
theorem dX7_bestGate_38 : decode cX7_bestGate 38 = .ok (.getfield 26, 3) := by decide +kernel
theorem dX7_bestGate_41 : decode cX7_bestGate 41 = .ok (.getfield 98, 3) := by decide +kernel
theorem dX7_bestGate_44 : decode cX7_bestGate 44 = .ok (.iload 4, 2) := by decide +kernel
theorem dX7_bestGate_46 : decode cX7_bestGate 46 = .ok (.aaload, 1) := by decide +kernel
theorem dX7_bestGate_47 : decode cX7_bestGate 47 = .ok (.astore 5, 2) := by decide +kernel
theorem dX7_bestGate_49 : decode cX7_bestGate 49 = .ok (.aload 5, 2) := by decide +kernel
theorem dX7_bestGate_51 : decode cX7_bestGate 51 = .ok (.iload_n 1, 1) := by decide +kernel
theorem dX7_bestGate_52 : decode cX7_bestGate 52 = .ok (.invokevirtual 151, 3) := by decide +kernel
theorem dX7_bestGate_55 : decode cX7_bestGate 55 = .ok (.ifCond .eq 29, 3) := by decide +kernel
theorem dX7_bestGate_58 : decode cX7_bestGate 58 = .ok (.aload 5, 2) := by decide +kernel
theorem dX7_bestGate_60 : decode cX7_bestGate 60 = .ok (.iload_n 1, 1) := by decide +kernel
theorem dX7_bestGate_61 : decode cX7_bestGate 61 = .ok (.invokevirtual 117, 3) := by decide +kernel
theorem dX7_bestGate_64 : decode cX7_bestGate 64 = .ok (.getfield 154, 3) := by decide +kernel
theorem dX7_bestGate_67 : decode cX7_bestGate 67 = .ok (.iload_n 3, 1) := by decide +kernel
theorem dX7_bestGate_68 : decode cX7_bestGate 68 = .ok (.if_icmp .ge 16, 3) := by decide +kernel
theorem dX7_bestGate_71 : decode cX7_bestGate 71 = .ok (.iload 4, 2) := by decide +kernel
theorem dX7_bestGate_73 : decode cX7_bestGate 73 = .ok (.istore_n 2, 1) := by decide +kernel
theorem dX7_bestGate_74 : decode cX7_bestGate 74 = .ok (.aload 5, 2) := by decide +kernel
theorem dX7_bestGate_76 : decode cX7_bestGate 76 = .ok (.iload_n 1, 1) := by decide +kernel
theorem dX7_bestGate_77 : decode cX7_bestGate 77 = .ok (.invokevirtual 117, 3) := by decide +kernel
theorem dX7_bestGate_80 : decode cX7_bestGate 80 = .ok (.getfield 154, 3) := by decide +kernel
theorem dX7_bestGate_83 : decode cX7_bestGate 83 = .ok (.istore_n 3, 1) := by decide +kernel
theorem dX7_bestGate_84 : decode cX7_bestGate 84 = .ok (.iinc 4 1, 3) := by decide +kernel
theorem dX7_bestGate_87 : decode cX7_bestGate 87 = .ok (.goto (-75), 3) := by decide +kernel
theorem dX7_bestGate_90 : decode cX7_bestGate 90 = .ok (.iload_n 2, 1) := by decide +kernel
theorem dX7_bestGate_91 : decode cX7_bestGate 91 = .ok (.ireturn, 1) := by decide +kernel
theorem dX7_nextSide_0 : decode cX7_nextSide 0 = .ok (.aload_n 0, 1) := by decide +kernel
theorem dX7_nextSide_1 : decode cX7_nextSide 1 = .ok (.iload_n 1, 1) := by decide +kernel
theorem dX7_nextSide_2 : decode cX7_nextSide 2 = .ok (.invokevirtual 95, 3) := by decide +kernel
theorem dX7_nextSide_5 : decode cX7_nextSide 5 = .ok (.aload_n 0, 1) := by decide +kernel
theorem dX7_nextSide_6 : decode cX7_nextSide 6 = .ok (.getfield 26, 3) := by decide +kernel
theorem dX7_nextSide_9 : decode cX7_nextSide 9 = .ok (.getfield 98, 3) := by decide +kernel
theorem dX7_nextSide_12 : decode cX7_nextSide 12 = .ok (.iload_n 1, 1) := by decide +kernel
theorem dX7_nextSide_13 : decode cX7_nextSide 13 = .ok (.aaload, 1) := by decide +kernel
theorem dX7_nextSide_14 : decode cX7_nextSide 14 = .ok (.invokevirtual 157, 3) := by decide +kernel
theorem dX7_nextSide_17 : decode cX7_nextSide 17 = .ok (.ireturn, 1) := by decide +kernel
theorem dX7_throughIn_0 : decode cX7_throughIn 0 = .ok (.aload_n 0, 1) := by decide +kernel
theorem dX7_throughIn_1 : decode cX7_throughIn 1 = .ok (.iload_n 1, 1) := by decide +kernel
theorem dX7_throughIn_2 : decode cX7_throughIn 2 = .ok (.invokevirtual 107, 3) := by decide +kernel
theorem dX7_throughIn_5 : decode cX7_throughIn 5 = .ok (.aload_n 0, 1) := by decide +kernel
theorem dX7_throughIn_6 : decode cX7_throughIn 6 = .ok (.getfield 26, 3) := by decide +kernel
theorem dX7_throughIn_9 : decode cX7_throughIn 9 = .ok (.iload_n 1, 1) := by decide +kernel
theorem dX7_throughIn_10 : decode cX7_throughIn 10 = .ok (.invokevirtual 161, 3) := by decide +kernel
theorem dX7_throughIn_13 : decode cX7_throughIn 13 = .ok (.iconst (-1), 1) := by decide +kernel
theorem dX7_throughIn_14 : decode cX7_throughIn 14 = .ok (.if_icmp .ne 5, 3) := by decide +kernel
theorem dX7_throughIn_17 : decode cX7_throughIn 17 = .ok (.iconst (-1), 1) := by decide +kernel
theorem dX7_throughIn_18 : decode cX7_throughIn 18 = .ok (.ireturn, 1) := by decide +kernel
theorem dX7_throughIn_19 : decode cX7_throughIn 19 = .ok (.aload_n 0, 1) := by decide +kernel
theorem dX7_throughIn_20 : decode cX7_throughIn 20 = .ok (.getfield 33, 3) := by decide +kernel
theorem dX7_throughIn_23 : decode cX7_throughIn 23 = .ok (.aload_n 0, 1) := by decide +kernel
theorem dX7_throughIn_24 : decode cX7_throughIn 24 = .ok (.getfield 26, 3) := by decide +kernel
theorem dX7_throughIn_27 : decode cX7_throughIn 27 = .ok (.invokevirtual 57, 3) := by decide +kernel
theorem dX7_throughIn_30 : decode cX7_throughIn 30 = .ok (.iconst 1, 1) := by decide +kernel
theorem dX7_throughIn_31 : decode cX7_throughIn 31 = .ok (.istore_n 2, 1) := by decide +kernel
theorem dX7_throughIn_32 : decode cX7_throughIn 32 = .ok (.iload_n 2, 1) := by decide +kernel
theorem dX7_throughIn_33 : decode cX7_throughIn 33 = .ok (.sipush 200, 3) := by decide +kernel
theorem dX7_throughIn_36 : decode cX7_throughIn 36 = .ok (.if_icmp .gt 46, 3) := by decide +kernel
theorem dX7_throughIn_39 : decode cX7_throughIn 39 = .ok (.aload_n 0, 1) := by decide +kernel
theorem dX7_throughIn_40 : decode cX7_throughIn 40 = .ok (.getfield 33, 3) := by decide +kernel
theorem dX7_throughIn_43 : decode cX7_throughIn 43 = .ok (.iconst 1, 1) := by decide +kernel
theorem dX7_throughIn_44 : decode cX7_throughIn 44 = .ok (.invokevirtual 164, 3) := by decide +kernel
theorem dX7_throughIn_47 : decode cX7_throughIn 47 = .ok (.aload_n 0, 1) := by decide +kernel
theorem dX7_throughIn_48 : decode cX7_throughIn 48 = .ok (.getfield 33, 3) := by decide +kernel
theorem dX7_throughIn_51 : decode cX7_throughIn 51 = .ok (.getfield 135, 3) := by decide +kernel
theorem dX7_throughIn_54 : decode cX7_throughIn 54 = .ok (.iload_n 1, 1) := by decide +kernel
theorem dX7_throughIn_55 : decode cX7_throughIn 55 = .ok (.aaload, 1) := by decide +kernel
theorem dX7_throughIn_56 : decode cX7_throughIn 56 = .ok (.getfield 167, 3) := by decide +kernel
theorem dX7_throughIn_59 : decode cX7_throughIn 59 = .ok (.aload_n 0, 1) := by decide +kernel
theorem dX7_throughIn_60 : decode cX7_throughIn 60 = .ok (.getfield 26, 3) := by decide +kernel
theorem dX7_throughIn_63 : decode cX7_throughIn 63 = .ok (.getfield 135, 3) := by decide +kernel
theorem dX7_throughIn_66 : decode cX7_throughIn 66 = .ok (.iload_n 1, 1) := by decide +kernel
theorem dX7_throughIn_67 : decode cX7_throughIn 67 = .ok (.aaload, 1) := by decide +kernel
theorem dX7_throughIn_68 : decode cX7_throughIn 68 = .ok (.getfield 167, 3) := by decide +kernel
theorem dX7_throughIn_71 : decode cX7_throughIn 71 = .ok (.if_icmp .eq 5, 3) := by decide +kernel
theorem dX7_throughIn_74 : decode cX7_throughIn 74 = .ok (.iload_n 2, 1) := by decide +kernel
theorem dX7_throughIn_75 : decode cX7_throughIn 75 = .ok (.ireturn, 1) := by decide +kernel
theorem dX7_throughIn_76 : decode cX7_throughIn 76 = .ok (.iinc 2 1, 3) := by decide +kernel
theorem dX7_throughIn_79 : decode cX7_throughIn 79 = .ok (.goto (-47), 3) := by decide +kernel
theorem dX7_throughIn_82 : decode cX7_throughIn 82 = .ok (.iconst (-1), 1) := by decide +kernel
theorem dX7_throughIn_83 : decode cX7_throughIn 83 = .ok (.ireturn, 1) := by decide +kernel
theorem dX7_insideIn_0 : decode cX7_insideIn 0 = .ok (.iload_n 1, 1) := by decide +kernel
theorem dX7_insideIn_1 : decode cX7_insideIn 1 = .ok (.sipush 200, 3) := by decide +kernel
theorem dX7_insideIn_4 : decode cX7_insideIn 4 = .ok (.invokestatic 170, 3) := by decide +kernel
theorem dX7_insideIn_7 : decode cX7_insideIn 7 = .ok (.aload_n 0, 1) := by decide +kernel
theorem dX7_insideIn_8 : decode cX7_insideIn 8 = .ok (.getfield 33, 3) := by decide +kernel
theorem dX7_insideIn_11 : decode cX7_insideIn 11 = .ok (.aload_n 0, 1) := by decide +kernel
theorem dX7_insideIn_12 : decode cX7_insideIn 12 = .ok (.getfield 26, 3) := by decide +kernel
theorem dX7_insideIn_15 : decode cX7_insideIn 15 = .ok (.invokevirtual 57, 3) := by decide +kernel
theorem dX7_insideIn_18 : decode cX7_insideIn 18 = .ok (.aload_n 0, 1) := by decide +kernel
theorem dX7_insideIn_19 : decode cX7_insideIn 19 = .ok (.getfield 33, 3) := by decide +kernel
theorem dX7_insideIn_22 : decode cX7_insideIn 22 = .ok (.iload_n 1, 1) := by decide +kernel
theorem dX7_insideIn_23 : decode cX7_insideIn 23 = .ok (.invokevirtual 164, 3) := by decide +kernel
theorem dX7_insideIn_26 : decode cX7_insideIn 26 = .ok (.aload_n 0, 1) := by decide +kernel
theorem dX7_insideIn_27 : decode cX7_insideIn 27 = .ok (.getfield 33, 3) := by decide +kernel
theorem dX7_insideIn_30 : decode cX7_insideIn 30 = .ok (.getfield 174, 3) := by decide +kernel
theorem dX7_insideIn_33 : decode cX7_insideIn 33 = .ok (.ireturn, 1) := by decide +kernel
theorem dX7_followersIn_0 : decode cX7_followersIn 0 = .ok (.iload_n 1, 1) := by decide +kernel
theorem dX7_followersIn_1 : decode cX7_followersIn 1 = .ok (.sipush 200, 3) := by decide +kernel
theorem dX7_followersIn_4 : decode cX7_followersIn 4 = .ok (.invokestatic 170, 3) := by decide +kernel
theorem dX7_followersIn_7 : decode cX7_followersIn 7 = .ok (.aload_n 0, 1) := by decide +kernel
theorem dX7_followersIn_8 : decode cX7_followersIn 8 = .ok (.getfield 33, 3) := by decide +kernel
theorem dX7_followersIn_11 : decode cX7_followersIn 11 = .ok (.aload_n 0, 1) := by decide +kernel
theorem dX7_followersIn_12 : decode cX7_followersIn 12 = .ok (.getfield 26, 3) := by decide +kernel
theorem dX7_followersIn_15 : decode cX7_followersIn 15 = .ok (.invokevirtual 57, 3) := by decide +kernel
theorem dX7_followersIn_18 : decode cX7_followersIn 18 = .ok (.aload_n 0, 1) := by decide +kernel
theorem dX7_followersIn_19 : decode cX7_followersIn 19 = .ok (.getfield 33, 3) := by decide +kernel
theorem dX7_followersIn_22 : decode cX7_followersIn 22 = .ok (.iload_n 1, 1) := by decide +kernel
theorem dX7_followersIn_23 : decode cX7_followersIn 23 = .ok (.invokevirtual 164, 3) := by decide +kernel
theorem dX7_followersIn_26 : decode cX7_followersIn 26 = .ok (.aload_n 0, 1) := by decide +kernel
theorem dX7_followersIn_27 : decode cX7_followersIn 27 = .ok (.getfield 33, 3) := by decide +kernel
theorem dX7_followersIn_30 : decode cX7_followersIn 30 = .ok (.getfield 177, 3) := by decide +kernel
theorem dX7_followersIn_33 : decode cX7_followersIn 33 = .ok (.aload_n 0, 1) := by decide +kernel
theorem dX7_followersIn_34 : decode cX7_followersIn 34 = .ok (.getfield 26, 3) := by decide +kernel
theorem dX7_followersIn_37 : decode cX7_followersIn 37 = .ok (.getfield 177, 3) := by decide +kernel
theorem dX7_followersIn_40 : decode cX7_followersIn 40 = .ok (.isub, 1) := by decide +kernel
theorem dX7_followersIn_41 : decode cX7_followersIn 41 = .ok (.ireturn, 1) := by decide +kernel
theorem dX7_outInPanic_0 : decode cX7_outInPanic 0 = .ok (.iconst 0, 1) := by decide +kernel
theorem dX7_outInPanic_1 : decode cX7_outInPanic 1 = .ok (.istore_n 1, 1) := by decide +kernel
theorem dX7_outInPanic_2 : decode cX7_outInPanic 2 = .ok (.aload_n 0, 1) := by decide +kernel
theorem dX7_outInPanic_3 : decode cX7_outInPanic 3 = .ok (.getfield 26, 3) := by decide +kernel
theorem dX7_outInPanic_6 : decode cX7_outInPanic 6 = .ok (.getfield 98, 3) := by decide +kernel
theorem dX7_outInPanic_9 : decode cX7_outInPanic 9 = .ok (.astore_n 2, 1) := by decide +kernel
theorem dX7_outInPanic_10 : decode cX7_outInPanic 10 = .ok (.aload_n 2, 1) := by decide +kernel
theorem dX7_outInPanic_11 : decode cX7_outInPanic 11 = .ok (.arraylength, 1) := by decide +kernel
theorem dX7_outInPanic_12 : decode cX7_outInPanic 12 = .ok (.istore_n 3, 1) := by decide +kernel
theorem dX7_outInPanic_13 : decode cX7_outInPanic 13 = .ok (.iconst 0, 1) := by decide +kernel
theorem dX7_outInPanic_14 : decode cX7_outInPanic 14 = .ok (.istore 4, 2) := by decide +kernel
theorem dX7_outInPanic_16 : decode cX7_outInPanic 16 = .ok (.iload 4, 2) := by decide +kernel
theorem dX7_outInPanic_18 : decode cX7_outInPanic 18 = .ok (.iload_n 3, 1) := by decide +kernel
theorem dX7_outInPanic_19 : decode cX7_outInPanic 19 = .ok (.if_icmp .ge 28, 3) := by decide +kernel
theorem dX7_outInPanic_22 : decode cX7_outInPanic 22 = .ok (.aload_n 2, 1) := by decide +kernel
theorem dX7_outInPanic_23 : decode cX7_outInPanic 23 = .ok (.iload 4, 2) := by decide +kernel
theorem dX7_outInPanic_25 : decode cX7_outInPanic 25 = .ok (.aaload, 1) := by decide +kernel
theorem dX7_outInPanic_26 : decode cX7_outInPanic 26 = .ok (.astore 5, 2) := by decide +kernel
theorem dX7_outInPanic_28 : decode cX7_outInPanic 28 = .ok (.iload_n 1, 1) := by decide +kernel
theorem dX7_outInPanic_29 : decode cX7_outInPanic 29 = .ok (.aload 5, 2) := by decide +kernel
theorem dX7_outInPanic_31 : decode cX7_outInPanic 31 = .ok (.getfield 180, 3) := by decide +kernel
theorem dX7_outInPanic_34 : decode cX7_outInPanic 34 = .ok (.getfield 154, 3) := by decide +kernel
theorem dX7_outInPanic_37 : decode cX7_outInPanic 37 = .ok (.invokestatic 184, 3) := by decide +kernel
theorem dX7_outInPanic_40 : decode cX7_outInPanic 40 = .ok (.istore_n 1, 1) := by decide +kernel
theorem dX7_outInPanic_41 : decode cX7_outInPanic 41 = .ok (.iinc 4 1, 3) := by decide +kernel
theorem dX7_outInPanic_44 : decode cX7_outInPanic 44 = .ok (.goto (-28), 3) := by decide +kernel
theorem dX7_outInPanic_47 : decode cX7_outInPanic 47 = .ok (.iconst 0, 1) := by decide +kernel
theorem dX7_outInPanic_48 : decode cX7_outInPanic 48 = .ok (.istore_n 2, 1) := by decide +kernel
theorem dX7_outInPanic_49 : decode cX7_outInPanic 49 = .ok (.iload_n 1, 1) := by decide +kernel
theorem dX7_outInPanic_50 : decode cX7_outInPanic 50 = .ok (.istore_n 3, 1) := by decide +kernel
theorem dX7_outInPanic_51 : decode cX7_outInPanic 51 = .ok (.iload_n 3, 1) := by decide +kernel
theorem dX7_outInPanic_52 : decode cX7_outInPanic 52 = .ok (.ifCond .le 25, 3) := by decide +kernel
theorem dX7_outInPanic_55 : decode cX7_outInPanic 55 = .ok (.iload_n 2, 1) := by decide +kernel
theorem dX7_outInPanic_56 : decode cX7_outInPanic 56 = .ok (.bipush 10, 2) := by decide +kernel
theorem dX7_outInPanic_58 : decode cX7_outInPanic 58 = .ok (.if_icmp .ge 19, 3) := by decide +kernel
theorem dX7_outInPanic_61 : decode cX7_outInPanic 61 = .ok (.iinc 2 1, 3) := by decide +kernel
theorem dX7_outInPanic_64 : decode cX7_outInPanic 64 = .ok (.iload_n 3, 1) := by decide +kernel
theorem dX7_outInPanic_65 : decode cX7_outInPanic 65 = .ok (.aload_n 0, 1) := by decide +kernel
theorem dX7_outInPanic_66 : decode cX7_outInPanic 66 = .ok (.getfield 26, 3) := by decide +kernel
theorem dX7_outInPanic_69 : decode cX7_outInPanic 69 = .ok (.getfield 189, 3) := by decide +kernel
theorem dX7_outInPanic_72 : decode cX7_outInPanic 72 = .ok (.isub, 1) := by decide +kernel
theorem dX7_outInPanic_73 : decode cX7_outInPanic 73 = .ok (.istore_n 3, 1) := by decide +kernel
theorem dX7_outInPanic_74 : decode cX7_outInPanic 74 = .ok (.goto (-23), 3) := by decide +kernel
theorem dX7_outInPanic_77 : decode cX7_outInPanic 77 = .ok (.iload_n 2, 1) := by decide +kernel
theorem dX7_outInPanic_78 : decode cX7_outInPanic 78 = .ok (.ireturn, 1) := by decide +kernel
theorem dX7_ranked_0 : decode cX7_ranked 0 = .ok (.iconst 0, 1) := by decide +kernel
theorem dX7_ranked_1 : decode cX7_ranked 1 = .ok (.istore_n 2, 1) := by decide +kernel
theorem dX7_ranked_2 : decode cX7_ranked 2 = .ok (.iload_n 2, 1) := by decide +kernel
theorem dX7_ranked_3 : decode cX7_ranked 3 = .ok (.aload_n 0, 1) := by decide +kernel
theorem dX7_ranked_4 : decode cX7_ranked 4 = .ok (.getfield 26, 3) := by decide +kernel
theorem dX7_ranked_7 : decode cX7_ranked 7 = .ok (.getfield 75, 3) := by decide +kernel
theorem dX7_ranked_10 : decode cX7_ranked 10 = .ok (.if_icmp .ge 35, 3) := by decide +kernel
theorem dX7_ranked_13 : decode cX7_ranked 13 = .ok (.iload_n 2, 1) := by decide +kernel
theorem dX7_ranked_14 : decode cX7_ranked 14 = .ok (.aload_n 0, 1) := by decide +kernel
theorem dX7_ranked_15 : decode cX7_ranked 15 = .ok (.getfield 26, 3) := by decide +kernel
theorem dX7_ranked_18 : decode cX7_ranked 18 = .ok (.getfield 98, 3) := by decide +kernel
theorem dX7_ranked_21 : decode cX7_ranked 21 = .ok (.arraylength, 1) := by decide +kernel
theorem dX7_ranked_22 : decode cX7_ranked 22 = .ok (.if_icmp .ge 23, 3) := by decide +kernel
theorem dX7_ranked_25 : decode cX7_ranked 25 = .ok (.aload_n 0, 1) := by decide +kernel
theorem dX7_ranked_26 : decode cX7_ranked 26 = .ok (.getfield 26, 3) := by decide +kernel
theorem dX7_ranked_29 : decode cX7_ranked 29 = .ok (.iload_n 2, 1) := by decide +kernel
theorem dX7_ranked_30 : decode cX7_ranked 30 = .ok (.invokevirtual 192, 3) := by decide +kernel
theorem dX7_ranked_33 : decode cX7_ranked 33 = .ok (.iload_n 1, 1) := by decide +kernel
theorem dX7_ranked_34 : decode cX7_ranked 34 = .ok (.if_icmp .ne 5, 3) := by decide +kernel
theorem dX7_ranked_37 : decode cX7_ranked 37 = .ok (.iload_n 2, 1) := by decide +kernel
theorem dX7_ranked_38 : decode cX7_ranked 38 = .ok (.ireturn, 1) := by decide +kernel
theorem dX7_ranked_39 : decode cX7_ranked 39 = .ok (.iinc 2 1, 3) := by decide +kernel
theorem dX7_ranked_42 : decode cX7_ranked 42 = .ok (.goto (-40), 3) := by decide +kernel
theorem dX7_ranked_45 : decode cX7_ranked 45 = .ok (.new 127, 3) := by decide +kernel
theorem dX7_ranked_48 : decode cX7_ranked 48 = .ok (.dup, 1) := by decide +kernel
theorem dX7_ranked_49 : decode cX7_ranked 49 = .ok (.ldc 195, 2) := by decide +kernel
theorem dX7_ranked_51 : decode cX7_ranked 51 = .ok (.invokespecial 131, 3) := by decide +kernel
theorem dX7_ranked_54 : decode cX7_ranked 54 = .ok (.athrow, 1) := by decide +kernel
theorem dX7_gap_0 : decode cX7_gap 0 = .ok (.aload_n 0, 1) := by decide +kernel
theorem dX7_gap_1 : decode cX7_gap 1 = .ok (.getfield 26, 3) := by decide +kernel
theorem dX7_gap_4 : decode cX7_gap 4 = .ok (.getfield 197, 3) := by decide +kernel
theorem dX7_gap_7 : decode cX7_gap 7 = .ok (.aload_n 0, 1) := by decide +kernel
theorem dX7_gap_8 : decode cX7_gap 8 = .ok (.getfield 26, 3) := by decide +kernel
theorem dX7_gap_11 : decode cX7_gap 11 = .ok (.getfield 200, 3) := by decide +kernel
theorem dX7_gap_14 : decode cX7_gap 14 = .ok (.isub, 1) := by decide +kernel
theorem dX7_gap_15 : decode cX7_gap 15 = .ok (.aload_n 0, 1) := by decide +kernel
theorem dX7_gap_16 : decode cX7_gap 16 = .ok (.getfield 26, 3) := by decide +kernel
theorem dX7_gap_19 : decode cX7_gap 19 = .ok (.getfield 203, 3) := by decide +kernel
theorem dX7_gap_22 : decode cX7_gap 22 = .ok (.isub, 1) := by decide +kernel
theorem dX7_gap_23 : decode cX7_gap 23 = .ok (.aload_n 0, 1) := by decide +kernel
theorem dX7_gap_24 : decode cX7_gap 24 = .ok (.getfield 26, 3) := by decide +kernel
theorem dX7_gap_27 : decode cX7_gap 27 = .ok (.getfield 174, 3) := by decide +kernel
theorem dX7_gap_30 : decode cX7_gap 30 = .ok (.isub, 1) := by decide +kernel
theorem dX7_gap_31 : decode cX7_gap 31 = .ok (.istore_n 1, 1) := by decide +kernel
theorem dX7_gap_32 : decode cX7_gap 32 = .ok (.iload_n 1, 1) := by decide +kernel
theorem dX7_gap_33 : decode cX7_gap 33 = .ok (.invokestatic 206, 3) := by decide +kernel
theorem dX7_gap_36 : decode cX7_gap 36 = .ok (.aload_n 0, 1) := by decide +kernel
theorem dX7_gap_37 : decode cX7_gap 37 = .ok (.getfield 26, 3) := by decide +kernel
theorem dX7_gap_40 : decode cX7_gap 40 = .ok (.invokevirtual 209, 3) := by decide +kernel
theorem dX7_gap_43 : decode cX7_gap 43 = .ok (.iadd, 1) := by decide +kernel
theorem dX7_gap_44 : decode cX7_gap 44 = .ok (.aload_n 0, 1) := by decide +kernel
theorem dX7_gap_45 : decode cX7_gap 45 = .ok (.getfield 26, 3) := by decide +kernel
theorem dX7_gap_48 : decode cX7_gap 48 = .ok (.invokevirtual 212, 3) := by decide +kernel
theorem dX7_gap_51 : decode cX7_gap 51 = .ok (.iadd, 1) := by decide +kernel
theorem dX7_gap_52 : decode cX7_gap 52 = .ok (.ireturn, 1) := by decide +kernel
theorem dX7_followerShare_0 : decode cX7_followerShare 0 = .ok (.aload_n 0, 1) := by decide +kernel
theorem dX7_followerShare_1 : decode cX7_followerShare 1 = .ok (.getfield 26, 3) := by decide +kernel
theorem dX7_followerShare_4 : decode cX7_followerShare 4 = .ok (.getfield 197, 3) := by decide +kernel
theorem dX7_followerShare_7 : decode cX7_followerShare 7 = .ok (.aload_n 0, 1) := by decide +kernel
theorem dX7_followerShare_8 : decode cX7_followerShare 8 = .ok (.getfield 26, 3) := by decide +kernel
theorem dX7_followerShare_11 : decode cX7_followerShare 11 = .ok (.getfield 200, 3) := by decide +kernel
theorem dX7_followerShare_14 : decode cX7_followerShare 14 = .ok (.iadd, 1) := by decide +kernel
theorem dX7_followerShare_15 : decode cX7_followerShare 15 = .ok (.istore_n 1, 1) := by decide +kernel
theorem dX7_followerShare_16 : decode cX7_followerShare 16 = .ok (.iload_n 1, 1) := by decide +kernel
theorem dX7_followerShare_17 : decode cX7_followerShare 17 = .ok (.ifCond .ne 5, 3) := by decide +kernel
theorem dX7_followerShare_20 : decode cX7_followerShare 20 = .ok (.fconst 0, 1) := by decide +kernel
theorem dX7_followerShare_21 : decode cX7_followerShare 21 = .ok (.freturn, 1) := by decide +kernel
theorem dX7_followerShare_22 : decode cX7_followerShare 22 = .ok (.aload_n 0, 1) := by decide +kernel
theorem dX7_followerShare_23 : decode cX7_followerShare 23 = .ok (.getfield 26, 3) := by decide +kernel
theorem dX7_followerShare_26 : decode cX7_followerShare 26 = .ok (.getfield 177, 3) := by decide +kernel
theorem dX7_followerShare_29 : decode cX7_followerShare 29 = .ok (.i2f, 1) := by decide +kernel
theorem dX7_followerShare_30 : decode cX7_followerShare 30 = .ok (.iload_n 1, 1) := by decide +kernel
theorem dX7_followerShare_31 : decode cX7_followerShare 31 = .ok (.i2f, 1) := by decide +kernel
theorem dX7_followerShare_32 : decode cX7_followerShare 32 = .ok (.fdiv, 1) := by decide +kernel
theorem dX7_followerShare_33 : decode cX7_followerShare 33 = .ok (.freturn, 1) := by decide +kernel
theorem dX7_join_0 : decode cX7_join 0 = .ok (.aload_n 0, 1) := by decide +kernel
theorem dX7_join_1 : decode cX7_join 1 = .ok (.iload_n 1, 1) := by decide +kernel
theorem dX7_join_2 : decode cX7_join 2 = .ok (.invokevirtual 95, 3) := by decide +kernel
theorem dX7_join_5 : decode cX7_join 5 = .ok (.aload_n 0, 1) := by decide +kernel
theorem dX7_join_6 : decode cX7_join 6 = .ok (.iload_n 3, 1) := by decide +kernel
theorem dX7_join_7 : decode cX7_join 7 = .ok (.invokevirtual 144, 3) := by decide +kernel
theorem dX7_join_10 : decode cX7_join 10 = .ok (.iload_n 2, 1) := by decide +kernel
theorem dX7_join_11 : decode cX7_join 11 = .ok (.invokestatic 114, 3) := by decide +kernel
theorem dX7_join_14 : decode cX7_join 14 = .ok (.aload_n 0, 1) := by decide +kernel
theorem dX7_join_15 : decode cX7_join 15 = .ok (.getfield 39, 3) := by decide +kernel
theorem dX7_join_18 : decode cX7_join 18 = .ok (.aload_n 0, 1) := by decide +kernel
theorem dX7_join_19 : decode cX7_join 19 = .ok (.getfield 26, 3) := by decide +kernel
theorem dX7_join_22 : decode cX7_join 22 = .ok (.invokevirtual 72, 3) := by decide +kernel
theorem dX7_join_25 : decode cX7_join 25 = .ok (.aload_n 0, 1) := by decide +kernel
theorem dX7_join_26 : decode cX7_join 26 = .ok (.getfield 26, 3) := by decide +kernel
theorem dX7_join_29 : decode cX7_join 29 = .ok (.aload_n 0, 1) := by decide +kernel
theorem dX7_join_30 : decode cX7_join 30 = .ok (.getfield 26, 3) := by decide +kernel
theorem dX7_join_33 : decode cX7_join 33 = .ok (.getfield 98, 3) := by decide +kernel
theorem dX7_join_36 : decode cX7_join 36 = .ok (.iload_n 1, 1) := by decide +kernel
theorem dX7_join_37 : decode cX7_join 37 = .ok (.aaload, 1) := by decide +kernel
theorem dX7_join_38 : decode cX7_join 38 = .ok (.iload_n 2, 1) := by decide +kernel
theorem dX7_join_39 : decode cX7_join 39 = .ok (.iload_n 3, 1) := by decide +kernel
theorem dX7_join_40 : decode cX7_join 40 = .ok (.invokevirtual 147, 3) := by decide +kernel
theorem dX7_join_43 : decode cX7_join 43 = .ok (.istore 4, 2) := by decide +kernel
theorem dX7_join_45 : decode cX7_join 45 = .ok (.iload 4, 2) := by decide +kernel
theorem dX7_join_47 : decode cX7_join 47 = .ok (.ifCond .eq 20, 3) := by decide +kernel
theorem dX7_join_50 : decode cX7_join 50 = .ok (.aload_n 0, 1) := by decide +kernel
theorem dX7_join_51 : decode cX7_join 51 = .ok (.getfield 26, 3) := by decide +kernel
theorem dX7_join_54 : decode cX7_join 54 = .ok (.dup, 1) := by decide +kernel
theorem dX7_join_55 : decode cX7_join 55 = .ok (.getfield 215, 3) := by decide +kernel
theorem dX7_join_58 : decode cX7_join 58 = .ok (.iconst 1, 1) := by decide +kernel
theorem dX7_join_59 : decode cX7_join 59 = .ok (.iadd, 1) := by decide +kernel
theorem dX7_join_60 : decode cX7_join 60 = .ok (.putfield 215, 3) := by decide +kernel
theorem dX7_join_63 : decode cX7_join 63 = .ok (.iload 4, 2) := by decide +kernel
theorem dX7_join_65 : decode cX7_join 65 = .ok (.ineg, 1) := by decide +kernel
theorem dX7_join_66 : decode cX7_join 66 = .ok (.ireturn, 1) := by decide +kernel
theorem dX7_join_67 : decode cX7_join 67 = .ok (.aload_n 0, 1) := by decide +kernel
theorem dX7_join_68 : decode cX7_join 68 = .ok (.getfield 26, 3) := by decide +kernel
theorem dX7_join_71 : decode cX7_join 71 = .ok (.getfield 98, 3) := by decide +kernel
theorem dX7_join_74 : decode cX7_join 74 = .ok (.iload_n 1, 1) := by decide +kernel
theorem dX7_join_75 : decode cX7_join 75 = .ok (.aaload, 1) := by decide +kernel
theorem dX7_join_76 : decode cX7_join 76 = .ok (.iload_n 2, 1) := by decide +kernel
theorem dX7_join_77 : decode cX7_join 77 = .ok (.invokevirtual 117, 3) := by decide +kernel
theorem dX7_join_80 : decode cX7_join 80 = .ok (.astore 5, 2) := by decide +kernel
theorem dX7_join_82 : decode cX7_join 82 = .ok (.aload 5, 2) := by decide +kernel
theorem dX7_join_84 : decode cX7_join 84 = .ok (.iload_n 3, 1) := by decide +kernel
theorem dX7_join_85 : decode cX7_join 85 = .ok (.invokevirtual 218, 3) := by decide +kernel
theorem dX7_join_88 : decode cX7_join 88 = .ok (.aload 5, 2) := by decide +kernel
theorem dX7_join_90 : decode cX7_join 90 = .ok (.getfield 154, 3) := by decide +kernel
theorem dX7_join_93 : decode cX7_join 93 = .ok (.ireturn, 1) := by decide +kernel
theorem dX7_leave_0 : decode cX7_leave 0 = .ok (.aload_n 0, 1) := by decide +kernel
theorem dX7_leave_1 : decode cX7_leave 1 = .ok (.iload_n 1, 1) := by decide +kernel
theorem dX7_leave_2 : decode cX7_leave 2 = .ok (.invokevirtual 95, 3) := by decide +kernel
theorem dX7_leave_5 : decode cX7_leave 5 = .ok (.iload_n 2, 1) := by decide +kernel
theorem dX7_leave_6 : decode cX7_leave 6 = .ok (.invokestatic 114, 3) := by decide +kernel
theorem dX7_leave_9 : decode cX7_leave 9 = .ok (.aload_n 0, 1) := by decide +kernel
theorem dX7_leave_10 : decode cX7_leave 10 = .ok (.getfield 26, 3) := by decide +kernel
theorem dX7_leave_13 : decode cX7_leave 13 = .ok (.getfield 98, 3) := by decide +kernel
theorem dX7_leave_16 : decode cX7_leave 16 = .ok (.iload_n 1, 1) := by decide +kernel
theorem dX7_leave_17 : decode cX7_leave 17 = .ok (.aaload, 1) := by decide +kernel
theorem dX7_leave_18 : decode cX7_leave 18 = .ok (.iload_n 2, 1) := by decide +kernel
theorem dX7_leave_19 : decode cX7_leave 19 = .ok (.invokevirtual 117, 3) := by decide +kernel
theorem dX7_leave_22 : decode cX7_leave 22 = .ok (.astore 4, 2) := by decide +kernel
theorem dX7_leave_24 : decode cX7_leave 24 = .ok (.aload 4, 2) := by decide +kernel
theorem dX7_leave_26 : decode cX7_leave 26 = .ok (.iload_n 3, 1) := by decide +kernel
theorem dX7_leave_27 : decode cX7_leave 27 = .ok (.invokevirtual 121, 3) := by decide +kernel
theorem dX7_leave_30 : decode cX7_leave 30 = .ok (.ifCond .ne 13, 3) := by decide +kernel
theorem dX7_leave_33 : decode cX7_leave 33 = .ok (.new 127, 3) := by decide +kernel
theorem dX7_leave_36 : decode cX7_leave 36 = .ok (.dup, 1) := by decide +kernel
theorem dX7_leave_37 : decode cX7_leave 37 = .ok (.ldc 129, 2) := by decide +kernel
theorem dX7_leave_39 : decode cX7_leave 39 = .ok (.invokespecial 131, 3) := by decide +kernel
theorem dX7_leave_42 : decode cX7_leave 42 = .ok (.athrow, 1) := by decide +kernel
theorem dX7_leave_43 : decode cX7_leave 43 = .ok (.iload_n 3, 1) := by decide +kernel
theorem dX7_leave_44 : decode cX7_leave 44 = .ok (.ifCond .ne 29, 3) := by decide +kernel
theorem dX7_leave_47 : decode cX7_leave 47 = .ok (.aload_n 0, 1) := by decide +kernel
theorem dX7_leave_48 : decode cX7_leave 48 = .ok (.getfield 26, 3) := by decide +kernel
theorem dX7_leave_51 : decode cX7_leave 51 = .ok (.getfield 98, 3) := by decide +kernel
theorem dX7_leave_54 : decode cX7_leave 54 = .ok (.iload_n 1, 1) := by decide +kernel
theorem dX7_leave_55 : decode cX7_leave 55 = .ok (.aaload, 1) := by decide +kernel
theorem dX7_leave_56 : decode cX7_leave 56 = .ok (.iload_n 2, 1) := by decide +kernel
theorem dX7_leave_57 : decode cX7_leave 57 = .ok (.invokevirtual 221, 3) := by decide +kernel
theorem dX7_leave_60 : decode cX7_leave 60 = .ok (.ifCond .eq 13, 3) := by decide +kernel
theorem dX7_leave_63 : decode cX7_leave 63 = .ok (.new 224, 3) := by decide +kernel
theorem dX7_leave_66 : decode cX7_leave 66 = .ok (.dup, 1) := by decide +kernel
theorem dX7_leave_67 : decode cX7_leave 67 = .ok (.ldc 226, 2) := by decide +kernel
theorem dX7_leave_69 : decode cX7_leave 69 = .ok (.invokespecial 228, 3) := by decide +kernel
theorem dX7_leave_72 : decode cX7_leave 72 = .ok (.athrow, 1) := by decide +kernel
theorem dX7_leave_73 : decode cX7_leave 73 = .ok (.aload_n 0, 1) := by decide +kernel
theorem dX7_leave_74 : decode cX7_leave 74 = .ok (.getfield 39, 3) := by decide +kernel
theorem dX7_leave_77 : decode cX7_leave 77 = .ok (.aload_n 0, 1) := by decide +kernel
theorem dX7_leave_78 : decode cX7_leave 78 = .ok (.getfield 26, 3) := by decide +kernel
theorem dX7_leave_81 : decode cX7_leave 81 = .ok (.invokevirtual 72, 3) := by decide +kernel
theorem dX7_leave_84 : decode cX7_leave 84 = .ok (.aload 4, 2) := by decide +kernel
theorem dX7_leave_86 : decode cX7_leave 86 = .ok (.iload_n 3, 1) := by decide +kernel
theorem dX7_leave_87 : decode cX7_leave 87 = .ok (.invokevirtual 229, 3) := by decide +kernel
theorem dX7_leave_90 : decode cX7_leave 90 = .ok (.pop, 1) := by decide +kernel
theorem dX7_leave_91 : decode cX7_leave 91 = .ok (.aload 4, 2) := by decide +kernel
theorem dX7_leave_93 : decode cX7_leave 93 = .ok (.getfield 154, 3) := by decide +kernel
theorem dX7_leave_96 : decode cX7_leave 96 = .ok (.ireturn, 1) := by decide +kernel
theorem dX7_list_0 : decode cX7_list 0 = .ok (.aload_n 0, 1) := by decide +kernel
theorem dX7_list_1 : decode cX7_list 1 = .ok (.iload_n 1, 1) := by decide +kernel
theorem dX7_list_2 : decode cX7_list 2 = .ok (.invokevirtual 107, 3) := by decide +kernel
theorem dX7_list_5 : decode cX7_list 5 = .ok (.aload_n 0, 1) := by decide +kernel
theorem dX7_list_6 : decode cX7_list 6 = .ok (.getfield 39, 3) := by decide +kernel
theorem dX7_list_9 : decode cX7_list 9 = .ok (.aload_n 0, 1) := by decide +kernel
theorem dX7_list_10 : decode cX7_list 10 = .ok (.getfield 26, 3) := by decide +kernel
theorem dX7_list_13 : decode cX7_list 13 = .ok (.invokevirtual 72, 3) := by decide +kernel
theorem dX7_list_16 : decode cX7_list 16 = .ok (.aload_n 0, 1) := by decide +kernel
theorem dX7_list_17 : decode cX7_list 17 = .ok (.getfield 26, 3) := by decide +kernel
theorem dX7_list_20 : decode cX7_list 20 = .ok (.getfield 135, 3) := by decide +kernel
theorem dX7_list_23 : decode cX7_list 23 = .ok (.iload_n 1, 1) := by decide +kernel
theorem dX7_list_24 : decode cX7_list 24 = .ok (.aaload, 1) := by decide +kernel
theorem dX7_list_25 : decode cX7_list 25 = .ok (.iload_n 2, 1) := by decide +kernel
theorem dX7_list_26 : decode cX7_list 26 = .ok (.putfield 232, 3) := by decide +kernel
theorem dX7_list_29 : decode cX7_list 29 = .ok (.aload_n 0, 1) := by decide +kernel
theorem dX7_list_30 : decode cX7_list 30 = .ok (.getfield 26, 3) := by decide +kernel
theorem dX7_list_33 : decode cX7_list 33 = .ok (.invokevirtual 236, 3) := by decide +kernel
theorem dX7_list_36 : decode cX7_list 36 = .ok (.ireturn, 1) := by decide +kernel
theorem dX7_charge_0 : decode cX7_charge 0 = .ok (.aload_n 0, 1) := by decide +kernel
theorem dX7_charge_1 : decode cX7_charge 1 = .ok (.iload_n 1, 1) := by decide +kernel
theorem dX7_charge_2 : decode cX7_charge 2 = .ok (.invokevirtual 107, 3) := by decide +kernel
theorem dX7_charge_5 : decode cX7_charge 5 = .ok (.iload_n 2, 1) := by decide +kernel
theorem dX7_charge_6 : decode cX7_charge 6 = .ok (.iconst 1, 1) := by decide +kernel
theorem dX7_charge_7 : decode cX7_charge 7 = .ok (.if_icmp .lt 9, 3) := by decide +kernel
theorem dX7_charge_10 : decode cX7_charge 10 = .ok (.iload_n 2, 1) := by decide +kernel
theorem dX7_charge_11 : decode cX7_charge 11 = .ok (.bipush 99, 2) := by decide +kernel
theorem dX7_charge_13 : decode cX7_charge 13 = .ok (.if_icmp .le 13, 3) := by decide +kernel
theorem dX7_charge_16 : decode cX7_charge 16 = .ok (.new 78, 3) := by decide +kernel
theorem dX7_charge_19 : decode cX7_charge 19 = .ok (.dup, 1) := by decide +kernel
theorem dX7_charge_20 : decode cX7_charge 20 = .ok (.ldc 239, 2) := by decide +kernel
theorem dX7_charge_22 : decode cX7_charge 22 = .ok (.invokespecial 82, 3) := by decide +kernel
theorem dX7_charge_25 : decode cX7_charge 25 = .ok (.athrow, 1) := by decide +kernel
theorem dX7_charge_26 : decode cX7_charge 26 = .ok (.aload_n 0, 1) := by decide +kernel
theorem dX7_charge_27 : decode cX7_charge 27 = .ok (.getfield 26, 3) := by decide +kernel
theorem dX7_charge_30 : decode cX7_charge 30 = .ok (.getfield 135, 3) := by decide +kernel
theorem dX7_charge_33 : decode cX7_charge 33 = .ok (.iload_n 1, 1) := by decide +kernel
theorem dX7_charge_34 : decode cX7_charge 34 = .ok (.aaload, 1) := by decide +kernel
theorem dX7_charge_35 : decode cX7_charge 35 = .ok (.getfield 241, 3) := by decide +kernel
theorem dX7_charge_38 : decode cX7_charge 38 = .ok (.iload_n 2, 1) := by decide +kernel
theorem dX7_charge_39 : decode cX7_charge 39 = .ok (.iadd, 1) := by decide +kernel
theorem dX7_charge_40 : decode cX7_charge 40 = .ok (.bipush 99, 2) := by decide +kernel
theorem dX7_charge_42 : decode cX7_charge 42 = .ok (.if_icmp .le 13, 3) := by decide +kernel
theorem dX7_charge_45 : decode cX7_charge 45 = .ok (.new 224, 3) := by decide +kernel
theorem dX7_charge_48 : decode cX7_charge 48 = .ok (.dup, 1) := by decide +kernel
theorem dX7_charge_49 : decode cX7_charge 49 = .ok (.ldc 244, 2) := by decide +kernel
theorem dX7_charge_51 : decode cX7_charge 51 = .ok (.invokespecial 228, 3) := by decide +kernel
theorem dX7_charge_54 : decode cX7_charge 54 = .ok (.athrow, 1) := by decide +kernel
theorem dX7_charge_55 : decode cX7_charge 55 = .ok (.aload_n 0, 1) := by decide +kernel
theorem dX7_charge_56 : decode cX7_charge 56 = .ok (.getfield 39, 3) := by decide +kernel
theorem dX7_charge_59 : decode cX7_charge 59 = .ok (.aload_n 0, 1) := by decide +kernel
theorem dX7_charge_60 : decode cX7_charge 60 = .ok (.getfield 26, 3) := by decide +kernel
theorem dX7_charge_63 : decode cX7_charge 63 = .ok (.invokevirtual 72, 3) := by decide +kernel
theorem dX7_charge_66 : decode cX7_charge 66 = .ok (.aload_n 0, 1) := by decide +kernel
theorem dX7_charge_67 : decode cX7_charge 67 = .ok (.getfield 26, 3) := by decide +kernel
theorem dX7_charge_70 : decode cX7_charge 70 = .ok (.getfield 135, 3) := by decide +kernel
theorem dX7_charge_73 : decode cX7_charge 73 = .ok (.iload_n 1, 1) := by decide +kernel
theorem dX7_charge_74 : decode cX7_charge 74 = .ok (.aaload, 1) := by decide +kernel
theorem dX7_charge_75 : decode cX7_charge 75 = .ok (.dup, 1) := by decide +kernel
theorem dX7_charge_76 : decode cX7_charge 76 = .ok (.getfield 241, 3) := by decide +kernel
theorem dX7_charge_79 : decode cX7_charge 79 = .ok (.iload_n 2, 1) := by decide +kernel
theorem dX7_charge_80 : decode cX7_charge 80 = .ok (.iadd, 1) := by decide +kernel
theorem dX7_charge_81 : decode cX7_charge 81 = .ok (.putfield 241, 3) := by decide +kernel
theorem dX7_charge_84 : decode cX7_charge 84 = .ok (.aload_n 0, 1) := by decide +kernel
theorem dX7_charge_85 : decode cX7_charge 85 = .ok (.getfield 26, 3) := by decide +kernel
theorem dX7_charge_88 : decode cX7_charge 88 = .ok (.getfield 135, 3) := by decide +kernel
theorem dX7_charge_91 : decode cX7_charge 91 = .ok (.iload_n 1, 1) := by decide +kernel
theorem dX7_charge_92 : decode cX7_charge 92 = .ok (.aaload, 1) := by decide +kernel
theorem dX7_charge_93 : decode cX7_charge 93 = .ok (.getfield 241, 3) := by decide +kernel
theorem dX7_charge_96 : decode cX7_charge 96 = .ok (.ireturn, 1) := by decide +kernel
theorem dX7_mode_0 : decode cX7_mode 0 = .ok (.aload_n 0, 1) := by decide +kernel
theorem dX7_mode_1 : decode cX7_mode 1 = .ok (.iload_n 1, 1) := by decide +kernel
theorem dX7_mode_2 : decode cX7_mode 2 = .ok (.invokevirtual 95, 3) := by decide +kernel
theorem dX7_mode_5 : decode cX7_mode 5 = .ok (.iload_n 2, 1) := by decide +kernel
theorem dX7_mode_6 : decode cX7_mode 6 = .ok (.ifCond .lt 8, 3) := by decide +kernel
theorem dX7_mode_9 : decode cX7_mode 9 = .ok (.iload_n 2, 1) := by decide +kernel
theorem dX7_mode_10 : decode cX7_mode 10 = .ok (.iconst 2, 1) := by decide +kernel
theorem dX7_mode_11 : decode cX7_mode 11 = .ok (.if_icmp .le 13, 3) := by decide +kernel
theorem dX7_mode_14 : decode cX7_mode 14 = .ok (.new 78, 3) := by decide +kernel
theorem dX7_mode_17 : decode cX7_mode 17 = .ok (.dup, 1) := by decide +kernel
theorem dX7_mode_18 : decode cX7_mode 18 = .ok (.ldc 246, 2) := by decide +kernel
theorem dX7_mode_20 : decode cX7_mode 20 = .ok (.invokespecial 82, 3) := by decide +kernel
theorem dX7_mode_23 : decode cX7_mode 23 = .ok (.athrow, 1) := by decide +kernel
theorem dX7_mode_24 : decode cX7_mode 24 = .ok (.aload_n 0, 1) := by decide +kernel
theorem dX7_mode_25 : decode cX7_mode 25 = .ok (.getfield 26, 3) := by decide +kernel
theorem dX7_mode_28 : decode cX7_mode 28 = .ok (.getfield 98, 3) := by decide +kernel
theorem dX7_mode_31 : decode cX7_mode 31 = .ok (.iload_n 1, 1) := by decide +kernel
theorem dX7_mode_32 : decode cX7_mode 32 = .ok (.aaload, 1) := by decide +kernel
theorem dX7_mode_33 : decode cX7_mode 33 = .ok (.iload_n 2, 1) := by decide +kernel
theorem dX7_mode_34 : decode cX7_mode 34 = .ok (.invokevirtual 248, 3) := by decide +kernel
theorem dX7_mode_37 : decode cX7_mode 37 = .ok (.ifCond .ne 13, 3) := by decide +kernel
theorem dX7_mode_40 : decode cX7_mode 40 = .ok (.new 224, 3) := by decide +kernel
theorem dX7_mode_43 : decode cX7_mode 43 = .ok (.dup, 1) := by decide +kernel
theorem dX7_mode_44 : decode cX7_mode 44 = .ok (.ldc 251, 2) := by decide +kernel
theorem dX7_mode_46 : decode cX7_mode 46 = .ok (.invokespecial 228, 3) := by decide +kernel
theorem dX7_mode_49 : decode cX7_mode 49 = .ok (.athrow, 1) := by decide +kernel
theorem dX7_mode_50 : decode cX7_mode 50 = .ok (.aload_n 0, 1) := by decide +kernel
theorem dX7_mode_51 : decode cX7_mode 51 = .ok (.getfield 39, 3) := by decide +kernel
theorem dX7_mode_54 : decode cX7_mode 54 = .ok (.aload_n 0, 1) := by decide +kernel
theorem dX7_mode_55 : decode cX7_mode 55 = .ok (.getfield 26, 3) := by decide +kernel
theorem dX7_mode_58 : decode cX7_mode 58 = .ok (.invokevirtual 72, 3) := by decide +kernel
theorem dX7_mode_61 : decode cX7_mode 61 = .ok (.aload_n 0, 1) := by decide +kernel
theorem dX7_mode_62 : decode cX7_mode 62 = .ok (.getfield 26, 3) := by decide +kernel
theorem dX7_mode_65 : decode cX7_mode 65 = .ok (.getfield 98, 3) := by decide +kernel
theorem dX7_mode_68 : decode cX7_mode 68 = .ok (.iload_n 1, 1) := by decide +kernel
theorem dX7_mode_69 : decode cX7_mode 69 = .ok (.aaload, 1) := by decide +kernel
theorem dX7_mode_70 : decode cX7_mode 70 = .ok (.getfield 253, 3) := by decide +kernel
theorem dX7_mode_73 : decode cX7_mode 73 = .ok (.istore_n 3, 1) := by decide +kernel
theorem dX7_mode_74 : decode cX7_mode 74 = .ok (.aload_n 0, 1) := by decide +kernel
theorem dX7_mode_75 : decode cX7_mode 75 = .ok (.getfield 26, 3) := by decide +kernel
theorem dX7_mode_78 : decode cX7_mode 78 = .ok (.getfield 98, 3) := by decide +kernel
theorem dX7_mode_81 : decode cX7_mode 81 = .ok (.iload_n 1, 1) := by decide +kernel
theorem dX7_mode_82 : decode cX7_mode 82 = .ok (.aaload, 1) := by decide +kernel
theorem dX7_mode_83 : decode cX7_mode 83 = .ok (.iload_n 2, 1) := by decide +kernel
theorem dX7_mode_84 : decode cX7_mode 84 = .ok (.putfield 253, 3) := by decide +kernel
theorem dX7_mode_87 : decode cX7_mode 87 = .ok (.iload_n 3, 1) := by decide +kernel
theorem dX7_mode_88 : decode cX7_mode 88 = .ok (.ireturn, 1) := by decide +kernel
theorem dX7_key_0 : decode cX7_key 0 = .ok (.iload_n 1, 1) := by decide +kernel
theorem dX7_key_1 : decode cX7_key 1 = .ok (.ifCond .lt 8, 3) := by decide +kernel
theorem dX7_key_4 : decode cX7_key 4 = .ok (.iload_n 1, 1) := by decide +kernel
theorem dX7_key_5 : decode cX7_key 5 = .ok (.iconst 3, 1) := by decide +kernel
theorem dX7_key_6 : decode cX7_key 6 = .ok (.if_icmp .lt 14, 3) := by decide +kernel
theorem dX7_key_9 : decode cX7_key 9 = .ok (.new 78, 3) := by decide +kernel
theorem dX7_key_12 : decode cX7_key 12 = .ok (.dup, 1) := by decide +kernel
theorem dX7_key_13 : decode cX7_key 13 = .ok (.ldc_w 256, 3) := by decide +kernel
theorem dX7_key_16 : decode cX7_key 16 = .ok (.invokespecial 82, 3) := by decide +kernel
theorem dX7_key_19 : decode cX7_key 19 = .ok (.athrow, 1) := by decide +kernel
theorem dX7_key_20 : decode cX7_key 20 = .ok (.aload_n 0, 1) := by decide +kernel
theorem dX7_key_21 : decode cX7_key 21 = .ok (.getfield 39, 3) := by decide +kernel
theorem dX7_key_24 : decode cX7_key 24 = .ok (.aload_n 0, 1) := by decide +kernel
theorem dX7_key_25 : decode cX7_key 25 = .ok (.getfield 26, 3) := by decide +kernel
theorem dX7_key_28 : decode cX7_key 28 = .ok (.invokevirtual 72, 3) := by decide +kernel
theorem dX7_key_31 : decode cX7_key 31 = .ok (.aload_n 0, 1) := by decide +kernel
theorem dX7_key_32 : decode cX7_key 32 = .ok (.getfield 26, 3) := by decide +kernel
theorem dX7_key_35 : decode cX7_key 35 = .ok (.iload_n 1, 1) := by decide +kernel
theorem dX7_key_36 : decode cX7_key 36 = .ok (.invokevirtual 258, 3) := by decide +kernel
theorem dX7_key_39 : decode cX7_key 39 = .ok (.aload_n 0, 1) := by decide +kernel
theorem dX7_key_40 : decode cX7_key 40 = .ok (.getfield 26, 3) := by decide +kernel
theorem dX7_key_43 : decode cX7_key 43 = .ok (.invokevirtual 261, 3) := by decide +kernel
theorem dX7_key_46 : decode cX7_key 46 = .ok (.ireturn, 1) := by decide +kernel
theorem dX7_tick_0 : decode cX7_tick 0 = .ok (.iload_n 1, 1) := by decide +kernel
theorem dX7_tick_1 : decode cX7_tick 1 = .ok (.bipush 99, 2) := by decide +kernel
theorem dX7_tick_3 : decode cX7_tick 3 = .ok (.invokestatic 170, 3) := by decide +kernel
theorem dX7_tick_6 : decode cX7_tick 6 = .ok (.aload_n 0, 1) := by decide +kernel
theorem dX7_tick_7 : decode cX7_tick 7 = .ok (.getfield 39, 3) := by decide +kernel
theorem dX7_tick_10 : decode cX7_tick 10 = .ok (.aload_n 0, 1) := by decide +kernel
theorem dX7_tick_11 : decode cX7_tick 11 = .ok (.getfield 26, 3) := by decide +kernel
theorem dX7_tick_14 : decode cX7_tick 14 = .ok (.invokevirtual 72, 3) := by decide +kernel
theorem dX7_tick_17 : decode cX7_tick 17 = .ok (.aload_n 0, 1) := by decide +kernel
theorem dX7_tick_18 : decode cX7_tick 18 = .ok (.getfield 26, 3) := by decide +kernel
theorem dX7_tick_21 : decode cX7_tick 21 = .ok (.getfield 197, 3) := by decide +kernel
theorem dX7_tick_24 : decode cX7_tick 24 = .ok (.aload_n 0, 1) := by decide +kernel
theorem dX7_tick_25 : decode cX7_tick 25 = .ok (.getfield 26, 3) := by decide +kernel
theorem dX7_tick_28 : decode cX7_tick 28 = .ok (.getfield 200, 3) := by decide +kernel
theorem dX7_tick_31 : decode cX7_tick 31 = .ok (.iadd, 1) := by decide +kernel
theorem dX7_tick_32 : decode cX7_tick 32 = .ok (.istore_n 2, 1) := by decide +kernel
theorem dX7_tick_33 : decode cX7_tick 33 = .ok (.aload_n 0, 1) := by decide +kernel
theorem dX7_tick_34 : decode cX7_tick 34 = .ok (.getfield 26, 3) := by decide +kernel
theorem dX7_tick_37 : decode cX7_tick 37 = .ok (.iload_n 1, 1) := by decide +kernel
theorem dX7_tick_38 : decode cX7_tick 38 = .ok (.invokevirtual 164, 3) := by decide +kernel
theorem dX7_tick_41 : decode cX7_tick 41 = .ok (.aload_n 0, 1) := by decide +kernel
theorem dX7_tick_42 : decode cX7_tick 42 = .ok (.getfield 26, 3) := by decide +kernel
theorem dX7_tick_45 : decode cX7_tick 45 = .ok (.getfield 197, 3) := by decide +kernel
theorem dX7_tick_48 : decode cX7_tick 48 = .ok (.aload_n 0, 1) := by decide +kernel
theorem dX7_tick_49 : decode cX7_tick 49 = .ok (.getfield 26, 3) := by decide +kernel
theorem dX7_tick_52 : decode cX7_tick 52 = .ok (.getfield 200, 3) := by decide +kernel
theorem dX7_tick_55 : decode cX7_tick 55 = .ok (.iadd, 1) := by decide +kernel
theorem dX7_tick_56 : decode cX7_tick 56 = .ok (.iload_n 2, 1) := by decide +kernel
theorem dX7_tick_57 : decode cX7_tick 57 = .ok (.isub, 1) := by decide +kernel
theorem dX7_tick_58 : decode cX7_tick 58 = .ok (.ireturn, 1) := by decide +kernel
theorem dX7_undo_0 : decode cX7_undo 0 = .ok (.aload_n 0, 1) := by decide +kernel
theorem dX7_undo_1 : decode cX7_undo 1 = .ok (.getfield 39, 3) := by decide +kernel
theorem dX7_undo_4 : decode cX7_undo 4 = .ok (.getfield 264, 3) := by decide +kernel
theorem dX7_undo_7 : decode cX7_undo 7 = .ok (.ifCond .ne 5, 3) := by decide +kernel
theorem dX7_undo_10 : decode cX7_undo 10 = .ok (.iconst (-1), 1) := by decide +kernel
theorem dX7_undo_11 : decode cX7_undo 11 = .ok (.ireturn, 1) := by decide +kernel
theorem dX7_undo_12 : decode cX7_undo 12 = .ok (.aload_n 0, 1) := by decide +kernel
theorem dX7_undo_13 : decode cX7_undo 13 = .ok (.getfield 39, 3) := by decide +kernel
theorem dX7_undo_16 : decode cX7_undo 16 = .ok (.aload_n 0, 1) := by decide +kernel
theorem dX7_undo_17 : decode cX7_undo 17 = .ok (.getfield 26, 3) := by decide +kernel
theorem dX7_undo_20 : decode cX7_undo 20 = .ok (.invokevirtual 267, 3) := by decide +kernel
theorem dX7_undo_23 : decode cX7_undo 23 = .ok (.aload_n 0, 1) := by decide +kernel
theorem dX7_undo_24 : decode cX7_undo 24 = .ok (.getfield 39, 3) := by decide +kernel
theorem dX7_undo_27 : decode cX7_undo 27 = .ok (.getfield 264, 3) := by decide +kernel
theorem dX7_undo_30 : decode cX7_undo 30 = .ok (.ireturn, 1) := by decide +kernel
theorem dX7_checksum_0 : decode cX7_checksum 0 = .ok (.lconst 0, 1) := by decide +kernel
theorem dX7_checksum_1 : decode cX7_checksum 1 = .ok (.lstore_n 1, 1) := by decide +kernel
theorem dX7_checksum_2 : decode cX7_checksum 2 = .ok (.iconst 0, 1) := by decide +kernel
theorem dX7_checksum_3 : decode cX7_checksum 3 = .ok (.istore_n 3, 1) := by decide +kernel
theorem dX7_checksum_4 : decode cX7_checksum 4 = .ok (.iload_n 3, 1) := by decide +kernel
theorem dX7_checksum_5 : decode cX7_checksum 5 = .ok (.bipush 16, 2) := by decide +kernel
theorem dX7_checksum_7 : decode cX7_checksum 7 = .ok (.if_icmp .ge 25, 3) := by decide +kernel
theorem dX7_checksum_10 : decode cX7_checksum 10 = .ok (.ldc2_w 270, 3) := by decide +kernel
theorem dX7_checksum_13 : decode cX7_checksum 13 = .ok (.lload_n 1, 1) := by decide +kernel
theorem dX7_checksum_14 : decode cX7_checksum 14 = .ok (.lmul, 1) := by decide +kernel
theorem dX7_checksum_15 : decode cX7_checksum 15 = .ok (.aload_n 0, 1) := by decide +kernel
theorem dX7_checksum_16 : decode cX7_checksum 16 = .ok (.getfield 26, 3) := by decide +kernel
theorem dX7_checksum_19 : decode cX7_checksum 19 = .ok (.iload_n 3, 1) := by decide +kernel
theorem dX7_checksum_20 : decode cX7_checksum 20 = .ok (.invokevirtual 85, 3) := by decide +kernel
theorem dX7_checksum_23 : decode cX7_checksum 23 = .ok (.i2l, 1) := by decide +kernel
theorem dX7_checksum_24 : decode cX7_checksum 24 = .ok (.ladd, 1) := by decide +kernel
theorem dX7_checksum_25 : decode cX7_checksum 25 = .ok (.lstore_n 1, 1) := by decide +kernel
theorem dX7_checksum_26 : decode cX7_checksum 26 = .ok (.iinc 3 1, 3) := by decide +kernel
theorem dX7_checksum_29 : decode cX7_checksum 29 = .ok (.goto (-25), 3) := by decide +kernel
theorem dX7_checksum_32 : decode cX7_checksum 32 = .ok (.iconst 0, 1) := by decide +kernel
theorem dX7_checksum_33 : decode cX7_checksum 33 = .ok (.istore_n 3, 1) := by decide +kernel
theorem dX7_checksum_34 : decode cX7_checksum 34 = .ok (.iload_n 3, 1) := by decide +kernel
theorem dX7_checksum_35 : decode cX7_checksum 35 = .ok (.aload_n 0, 1) := by decide +kernel
theorem dX7_checksum_36 : decode cX7_checksum 36 = .ok (.getfield 26, 3) := by decide +kernel
theorem dX7_checksum_39 : decode cX7_checksum 39 = .ok (.getfield 75, 3) := by decide +kernel
theorem dX7_checksum_42 : decode cX7_checksum 42 = .ok (.if_icmp .ge 93, 3) := by decide +kernel
theorem dX7_checksum_45 : decode cX7_checksum 45 = .ok (.iload_n 3, 1) := by decide +kernel
theorem dX7_checksum_46 : decode cX7_checksum 46 = .ok (.aload_n 0, 1) := by decide +kernel
theorem dX7_checksum_47 : decode cX7_checksum 47 = .ok (.getfield 26, 3) := by decide +kernel
theorem dX7_checksum_50 : decode cX7_checksum 50 = .ok (.getfield 98, 3) := by decide +kernel
theorem dX7_checksum_53 : decode cX7_checksum 53 = .ok (.arraylength, 1) := by decide +kernel
theorem dX7_checksum_54 : decode cX7_checksum 54 = .ok (.if_icmp .ge 81, 3) := by decide +kernel
theorem dX7_checksum_57 : decode cX7_checksum 57 = .ok (.iconst 0, 1) := by decide +kernel
theorem dX7_checksum_58 : decode cX7_checksum 58 = .ok (.istore 4, 2) := by decide +kernel
theorem dX7_checksum_60 : decode cX7_checksum 60 = .ok (.iload 4, 2) := by decide +kernel
theorem dX7_checksum_62 : decode cX7_checksum 62 = .ok (.bipush 9, 2) := by decide +kernel
theorem dX7_checksum_64 : decode cX7_checksum 64 = .ok (.if_icmp .ge 31, 3) := by decide +kernel
theorem dX7_checksum_67 : decode cX7_checksum 67 = .ok (.ldc2_w 270, 3) := by decide +kernel
theorem dX7_checksum_70 : decode cX7_checksum 70 = .ok (.lload_n 1, 1) := by decide +kernel
theorem dX7_checksum_71 : decode cX7_checksum 71 = .ok (.lmul, 1) := by decide +kernel
theorem dX7_checksum_72 : decode cX7_checksum 72 = .ok (.aload_n 0, 1) := by decide +kernel
theorem dX7_checksum_73 : decode cX7_checksum 73 = .ok (.getfield 26, 3) := by decide +kernel
theorem dX7_checksum_76 : decode cX7_checksum 76 = .ok (.getfield 98, 3) := by decide +kernel
theorem dX7_checksum_79 : decode cX7_checksum 79 = .ok (.iload_n 3, 1) := by decide +kernel
theorem dX7_checksum_80 : decode cX7_checksum 80 = .ok (.aaload, 1) := by decide +kernel
theorem dX7_checksum_81 : decode cX7_checksum 81 = .ok (.iload 4, 2) := by decide +kernel
theorem dX7_checksum_83 : decode cX7_checksum 83 = .ok (.invokevirtual 102, 3) := by decide +kernel
theorem dX7_checksum_86 : decode cX7_checksum 86 = .ok (.i2l, 1) := by decide +kernel
theorem dX7_checksum_87 : decode cX7_checksum 87 = .ok (.ladd, 1) := by decide +kernel
theorem dX7_checksum_88 : decode cX7_checksum 88 = .ok (.lstore_n 1, 1) := by decide +kernel
theorem dX7_checksum_89 : decode cX7_checksum 89 = .ok (.iinc 4 1, 3) := by decide +kernel
theorem dX7_checksum_92 : decode cX7_checksum 92 = .ok (.goto (-32), 3) := by decide +kernel
theorem dX7_checksum_95 : decode cX7_checksum 95 = .ok (.lload_n 1, 1) := by decide +kernel
theorem dX7_checksum_96 : decode cX7_checksum 96 = .ok (.aload_n 0, 1) := by decide +kernel
theorem dX7_checksum_97 : decode cX7_checksum 97 = .ok (.getfield 26, 3) := by decide +kernel
theorem dX7_checksum_100 : decode cX7_checksum 100 = .ok (.getfield 98, 3) := by decide +kernel
theorem dX7_checksum_103 : decode cX7_checksum 103 = .ok (.iload_n 3, 1) := by decide +kernel
theorem dX7_checksum_104 : decode cX7_checksum 104 = .ok (.aaload, 1) := by decide +kernel
theorem dX7_checksum_105 : decode cX7_checksum 105 = .ok (.getfield 272, 3) := by decide +kernel
theorem dX7_checksum_108 : decode cX7_checksum 108 = .ok (.invokestatic 275, 3) := by decide +kernel
theorem dX7_checksum_111 : decode cX7_checksum 111 = .ok (.lstore_n 1, 1) := by decide +kernel
theorem dX7_checksum_112 : decode cX7_checksum 112 = .ok (.lload_n 1, 1) := by decide +kernel
theorem dX7_checksum_113 : decode cX7_checksum 113 = .ok (.aload_n 0, 1) := by decide +kernel
theorem dX7_checksum_114 : decode cX7_checksum 114 = .ok (.getfield 26, 3) := by decide +kernel
theorem dX7_checksum_117 : decode cX7_checksum 117 = .ok (.getfield 98, 3) := by decide +kernel
theorem dX7_checksum_120 : decode cX7_checksum 120 = .ok (.iload_n 3, 1) := by decide +kernel
theorem dX7_checksum_121 : decode cX7_checksum 121 = .ok (.aaload, 1) := by decide +kernel
theorem dX7_checksum_122 : decode cX7_checksum 122 = .ok (.getfield 180, 3) := by decide +kernel
theorem dX7_checksum_125 : decode cX7_checksum 125 = .ok (.invokestatic 275, 3) := by decide +kernel
theorem dX7_checksum_128 : decode cX7_checksum 128 = .ok (.lstore_n 1, 1) := by decide +kernel
theorem dX7_checksum_129 : decode cX7_checksum 129 = .ok (.iinc 3 1, 3) := by decide +kernel
theorem dX7_checksum_132 : decode cX7_checksum 132 = .ok (.goto (-98), 3) := by decide +kernel
theorem dX7_checksum_135 : decode cX7_checksum 135 = .ok (.iconst 0, 1) := by decide +kernel
theorem dX7_checksum_136 : decode cX7_checksum 136 = .ok (.istore_n 3, 1) := by decide +kernel
theorem dX7_checksum_137 : decode cX7_checksum 137 = .ok (.iload_n 3, 1) := by decide +kernel
theorem dX7_checksum_138 : decode cX7_checksum 138 = .ok (.aload_n 0, 1) := by decide +kernel
theorem dX7_checksum_139 : decode cX7_checksum 139 = .ok (.getfield 26, 3) := by decide +kernel
theorem dX7_checksum_142 : decode cX7_checksum 142 = .ok (.getfield 279, 3) := by decide +kernel
theorem dX7_checksum_145 : decode cX7_checksum 145 = .ok (.if_icmp .ge 55, 3) := by decide +kernel
theorem dX7_checksum_148 : decode cX7_checksum 148 = .ok (.iload_n 3, 1) := by decide +kernel
theorem dX7_checksum_149 : decode cX7_checksum 149 = .ok (.aload_n 0, 1) := by decide +kernel
theorem dX7_checksum_150 : decode cX7_checksum 150 = .ok (.getfield 26, 3) := by decide +kernel
theorem dX7_checksum_153 : decode cX7_checksum 153 = .ok (.getfield 135, 3) := by decide +kernel
theorem dX7_checksum_156 : decode cX7_checksum 156 = .ok (.arraylength, 1) := by decide +kernel
theorem dX7_checksum_157 : decode cX7_checksum 157 = .ok (.if_icmp .ge 43, 3) := by decide +kernel
theorem dX7_checksum_160 : decode cX7_checksum 160 = .ok (.iconst 0, 1) := by decide +kernel
theorem dX7_checksum_161 : decode cX7_checksum 161 = .ok (.istore 4, 2) := by decide +kernel
theorem dX7_checksum_163 : decode cX7_checksum 163 = .ok (.iload 4, 2) := by decide +kernel
theorem dX7_checksum_165 : decode cX7_checksum 165 = .ok (.bipush 7, 2) := by decide +kernel
theorem dX7_checksum_167 : decode cX7_checksum 167 = .ok (.if_icmp .ge 27, 3) := by decide +kernel
theorem dX7_checksum_170 : decode cX7_checksum 170 = .ok (.ldc2_w 270, 3) := by decide +kernel
theorem dX7_checksum_173 : decode cX7_checksum 173 = .ok (.lload_n 1, 1) := by decide +kernel
theorem dX7_checksum_174 : decode cX7_checksum 174 = .ok (.lmul, 1) := by decide +kernel
theorem dX7_checksum_175 : decode cX7_checksum 175 = .ok (.aload_n 0, 1) := by decide +kernel
theorem dX7_checksum_176 : decode cX7_checksum 176 = .ok (.getfield 26, 3) := by decide +kernel
theorem dX7_checksum_179 : decode cX7_checksum 179 = .ok (.iload_n 3, 1) := by decide +kernel
theorem dX7_checksum_180 : decode cX7_checksum 180 = .ok (.iload 4, 2) := by decide +kernel
theorem dX7_checksum_182 : decode cX7_checksum 182 = .ok (.invokevirtual 110, 3) := by decide +kernel
theorem dX7_checksum_185 : decode cX7_checksum 185 = .ok (.i2l, 1) := by decide +kernel
theorem dX7_checksum_186 : decode cX7_checksum 186 = .ok (.ladd, 1) := by decide +kernel
theorem dX7_checksum_187 : decode cX7_checksum 187 = .ok (.lstore_n 1, 1) := by decide +kernel
theorem dX7_checksum_188 : decode cX7_checksum 188 = .ok (.iinc 4 1, 3) := by decide +kernel
theorem dX7_checksum_191 : decode cX7_checksum 191 = .ok (.goto (-28), 3) := by decide +kernel
theorem dX7_checksum_194 : decode cX7_checksum 194 = .ok (.iinc 3 1, 3) := by decide +kernel
theorem dX7_checksum_197 : decode cX7_checksum 197 = .ok (.goto (-60), 3) := by decide +kernel
theorem dX7_checksum_200 : decode cX7_checksum 200 = .ok (.lload_n 1, 1) := by decide +kernel
theorem dX7_checksum_201 : decode cX7_checksum 201 = .ok (.lreturn, 1) := by decide +kernel
theorem dX7_withLine_0 : decode cX7_withLine 0 = .ok (.lload_n 0, 1) := by decide +kernel
theorem dX7_withLine_1 : decode cX7_withLine 1 = .ok (.lstore_n 3, 1) := by decide +kernel
theorem dX7_withLine_2 : decode cX7_withLine 2 = .ok (.iconst 0, 1) := by decide +kernel
theorem dX7_withLine_3 : decode cX7_withLine 3 = .ok (.istore 5, 2) := by decide +kernel
theorem dX7_withLine_5 : decode cX7_withLine 5 = .ok (.iload 5, 2) := by decide +kernel
theorem dX7_withLine_7 : decode cX7_withLine 7 = .ok (.aload_n 2, 1) := by decide +kernel
theorem dX7_withLine_8 : decode cX7_withLine 8 = .ok (.getfield 154, 3) := by decide +kernel
theorem dX7_withLine_11 : decode cX7_withLine 11 = .ok (.if_icmp .ge 30, 3) := by decide +kernel
theorem dX7_withLine_14 : decode cX7_withLine 14 = .ok (.iload 5, 2) := by decide +kernel
theorem dX7_withLine_16 : decode cX7_withLine 16 = .ok (.bipush 10, 2) := by decide +kernel
theorem dX7_withLine_18 : decode cX7_withLine 18 = .ok (.if_icmp .ge 23, 3) := by decide +kernel
theorem dX7_withLine_21 : decode cX7_withLine 21 = .ok (.ldc2_w 270, 3) := by decide +kernel
theorem dX7_withLine_24 : decode cX7_withLine 24 = .ok (.lload_n 3, 1) := by decide +kernel
theorem dX7_withLine_25 : decode cX7_withLine 25 = .ok (.lmul, 1) := by decide +kernel
theorem dX7_withLine_26 : decode cX7_withLine 26 = .ok (.aload_n 2, 1) := by decide +kernel
theorem dX7_withLine_27 : decode cX7_withLine 27 = .ok (.iload 5, 2) := by decide +kernel
theorem dX7_withLine_29 : decode cX7_withLine 29 = .ok (.invokevirtual 132, 3) := by decide +kernel
theorem dX7_withLine_32 : decode cX7_withLine 32 = .ok (.i2l, 1) := by decide +kernel
theorem dX7_withLine_33 : decode cX7_withLine 33 = .ok (.ladd, 1) := by decide +kernel
theorem dX7_withLine_34 : decode cX7_withLine 34 = .ok (.lstore_n 3, 1) := by decide +kernel
theorem dX7_withLine_35 : decode cX7_withLine 35 = .ok (.iinc 5 1, 3) := by decide +kernel
theorem dX7_withLine_38 : decode cX7_withLine 38 = .ok (.goto (-33), 3) := by decide +kernel
theorem dX7_withLine_41 : decode cX7_withLine 41 = .ok (.lload_n 3, 1) := by decide +kernel
theorem dX7_withLine_42 : decode cX7_withLine 42 = .ok (.lreturn, 1) := by decide +kernel
theorem dX7_requireBuffered_0 : decode cX7_requireBuffered 0 = .ok (.iload_n 1, 1) := by decide +kernel
theorem dX7_requireBuffered_1 : decode cX7_requireBuffered 1 = .ok (.ifCond .lt 14, 3) := by decide +kernel
theorem dX7_requireBuffered_4 : decode cX7_requireBuffered 4 = .ok (.iload_n 1, 1) := by decide +kernel
theorem dX7_requireBuffered_5 : decode cX7_requireBuffered 5 = .ok (.aload_n 0, 1) := by decide +kernel
theorem dX7_requireBuffered_6 : decode cX7_requireBuffered 6 = .ok (.getfield 10, 3) := by decide +kernel
theorem dX7_requireBuffered_9 : decode cX7_requireBuffered 9 = .ok (.getfield 47, 3) := by decide +kernel
theorem dX7_requireBuffered_12 : decode cX7_requireBuffered 12 = .ok (.if_icmp .le 14, 3) := by decide +kernel
theorem dX7_requireBuffered_15 : decode cX7_requireBuffered 15 = .ok (.new 78, 3) := by decide +kernel
theorem dX7_requireBuffered_18 : decode cX7_requireBuffered 18 = .ok (.dup, 1) := by decide +kernel
theorem dX7_requireBuffered_19 : decode cX7_requireBuffered 19 = .ok (.ldc_w 282, 3) := by decide +kernel
theorem dX7_requireBuffered_22 : decode cX7_requireBuffered 22 = .ok (.invokespecial 82, 3) := by decide +kernel
theorem dX7_requireBuffered_25 : decode cX7_requireBuffered 25 = .ok (.athrow, 1) := by decide +kernel
theorem dX7_requireBuffered_26 : decode cX7_requireBuffered 26 = .ok (.return_, 1) := by decide +kernel
theorem dX7_requireGate_0 : decode cX7_requireGate 0 = .ok (.aload_n 0, 1) := by decide +kernel
theorem dX7_requireGate_1 : decode cX7_requireGate 1 = .ok (.getfield 26, 3) := by decide +kernel
theorem dX7_requireGate_4 : decode cX7_requireGate 4 = .ok (.iload_n 1, 1) := by decide +kernel
theorem dX7_requireGate_5 : decode cX7_requireGate 5 = .ok (.invokevirtual 284, 3) := by decide +kernel
theorem dX7_requireGate_8 : decode cX7_requireGate 8 = .ok (.ifCond .ne 14, 3) := by decide +kernel
theorem dX7_requireGate_11 : decode cX7_requireGate 11 = .ok (.new 287, 3) := by decide +kernel
theorem dX7_requireGate_14 : decode cX7_requireGate 14 = .ok (.dup, 1) := by decide +kernel
theorem dX7_requireGate_15 : decode cX7_requireGate 15 = .ok (.ldc_w 289, 3) := by decide +kernel
theorem dX7_requireGate_18 : decode cX7_requireGate 18 = .ok (.invokespecial 291, 3) := by decide +kernel
theorem dX7_requireGate_21 : decode cX7_requireGate 21 = .ok (.athrow, 1) := by decide +kernel
theorem dX7_requireGate_22 : decode cX7_requireGate 22 = .ok (.return_, 1) := by decide +kernel
theorem dX7_requireCard_0 : decode cX7_requireCard 0 = .ok (.aload_n 0, 1) := by decide +kernel
theorem dX7_requireCard_1 : decode cX7_requireCard 1 = .ok (.getfield 26, 3) := by decide +kernel
theorem dX7_requireCard_4 : decode cX7_requireCard 4 = .ok (.iload_n 1, 1) := by decide +kernel
theorem dX7_requireCard_5 : decode cX7_requireCard 5 = .ok (.invokevirtual 292, 3) := by decide +kernel
theorem dX7_requireCard_8 : decode cX7_requireCard 8 = .ok (.ifCond .ne 14, 3) := by decide +kernel
theorem dX7_requireCard_11 : decode cX7_requireCard 11 = .ok (.new 287, 3) := by decide +kernel
theorem dX7_requireCard_14 : decode cX7_requireCard 14 = .ok (.dup, 1) := by decide +kernel
theorem dX7_requireCard_15 : decode cX7_requireCard 15 = .ok (.ldc_w 295, 3) := by decide +kernel
theorem dX7_requireCard_18 : decode cX7_requireCard 18 = .ok (.invokespecial 291, 3) := by decide +kernel
theorem dX7_requireCard_21 : decode cX7_requireCard 21 = .ok (.athrow, 1) := by decide +kernel
theorem dX7_requireCard_22 : decode cX7_requireCard 22 = .ok (.return_, 1) := by decide +kernel
theorem dX7_requireCardOrNone_0 : decode cX7_requireCardOrNone 0 = .ok (.iload_n 1, 1) := by decide +kernel
theorem dX7_requireCardOrNone_1 : decode cX7_requireCardOrNone 1 = .ok (.iconst (-1), 1) := by decide +kernel
theorem dX7_requireCardOrNone_2 : decode cX7_requireCardOrNone 2 = .ok (.if_icmp .eq 25, 3) := by decide +kernel
theorem dX7_requireCardOrNone_5 : decode cX7_requireCardOrNone 5 = .ok (.aload_n 0, 1) := by decide +kernel
theorem dX7_requireCardOrNone_6 : decode cX7_requireCardOrNone 6 = .ok (.getfield 26, 3) := by decide +kernel
theorem dX7_requireCardOrNone_9 : decode cX7_requireCardOrNone 9 = .ok (.iload_n 1, 1) := by decide +kernel
theorem dX7_requireCardOrNone_10 : decode cX7_requireCardOrNone 10 = .ok (.invokevirtual 292, 3) := by decide +kernel
theorem dX7_requireCardOrNone_13 : decode cX7_requireCardOrNone 13 = .ok (.ifCond .ne 14, 3) := by decide +kernel
theorem dX7_requireCardOrNone_16 : decode cX7_requireCardOrNone 16 = .ok (.new 287, 3) := by decide +kernel
theorem dX7_requireCardOrNone_19 : decode cX7_requireCardOrNone 19 = .ok (.dup, 1) := by decide +kernel
theorem dX7_requireCardOrNone_20 : decode cX7_requireCardOrNone 20 = .ok (.ldc_w 295, 3) := by decide +kernel
theorem dX7_requireCardOrNone_23 : decode cX7_requireCardOrNone 23 = .ok (.invokespecial 291, 3) := by decide +kernel
theorem dX7_requireCardOrNone_26 : decode cX7_requireCardOrNone 26 = .ok (.athrow, 1) := by decide +kernel
theorem dX7_requireCardOrNone_27 : decode cX7_requireCardOrNone 27 = .ok (.return_, 1) := by decide +kernel
theorem dX7_requireSide_0 : decode cX7_requireSide 0 = .ok (.iload_n 0, 1) := by decide +kernel
theorem dX7_requireSide_1 : decode cX7_requireSide 1 = .ok (.ifCond .eq 19, 3) := by decide +kernel
theorem dX7_requireSide_4 : decode cX7_requireSide 4 = .ok (.iload_n 0, 1) := by decide +kernel
theorem dX7_requireSide_5 : decode cX7_requireSide 5 = .ok (.iconst 1, 1) := by decide +kernel
theorem dX7_requireSide_6 : decode cX7_requireSide 6 = .ok (.if_icmp .eq 14, 3) := by decide +kernel
theorem dX7_requireSide_9 : decode cX7_requireSide 9 = .ok (.new 78, 3) := by decide +kernel
theorem dX7_requireSide_12 : decode cX7_requireSide 12 = .ok (.dup, 1) := by decide +kernel
theorem dX7_requireSide_13 : decode cX7_requireSide 13 = .ok (.ldc_w 297, 3) := by decide +kernel
theorem dX7_requireSide_16 : decode cX7_requireSide 16 = .ok (.invokespecial 82, 3) := by decide +kernel
theorem dX7_requireSide_19 : decode cX7_requireSide 19 = .ok (.athrow, 1) := by decide +kernel
theorem dX7_requireSide_20 : decode cX7_requireSide 20 = .ok (.return_, 1) := by decide +kernel
theorem dX7_requireTicks_0 : decode cX7_requireTicks 0 = .ok (.iload_n 0, 1) := by decide +kernel
theorem dX7_requireTicks_1 : decode cX7_requireTicks 1 = .ok (.iconst 1, 1) := by decide +kernel
theorem dX7_requireTicks_2 : decode cX7_requireTicks 2 = .ok (.if_icmp .lt 8, 3) := by decide +kernel
theorem dX7_requireTicks_5 : decode cX7_requireTicks 5 = .ok (.iload_n 0, 1) := by decide +kernel
theorem dX7_requireTicks_6 : decode cX7_requireTicks 6 = .ok (.iload_n 1, 1) := by decide +kernel
theorem dX7_requireTicks_7 : decode cX7_requireTicks 7 = .ok (.if_icmp .le 14, 3) := by decide +kernel
theorem dX7_requireTicks_10 : decode cX7_requireTicks 10 = .ok (.new 78, 3) := by decide +kernel
theorem dX7_requireTicks_13 : decode cX7_requireTicks 13 = .ok (.dup, 1) := by decide +kernel
theorem dX7_requireTicks_14 : decode cX7_requireTicks 14 = .ok (.ldc_w 299, 3) := by decide +kernel
theorem dX7_requireTicks_17 : decode cX7_requireTicks 17 = .ok (.invokespecial 82, 3) := by decide +kernel
theorem dX7_requireTicks_20 : decode cX7_requireTicks 20 = .ok (.athrow, 1) := by decide +kernel
theorem dX7_requireTicks_21 : decode cX7_requireTicks 21 = .ok (.return_, 1) := by decide +kernel
theorem dX8_init_0 : decode cX8_init 0 = .ok (.aload_n 0, 1) := by decide +kernel
theorem dX8_init_1 : decode cX8_init 1 = .ok (.invokespecial 3, 3) := by decide +kernel
theorem dX8_init_4 : decode cX8_init 4 = .ok (.aload_n 0, 1) := by decide +kernel
theorem dX8_init_5 : decode cX8_init 5 = .ok (.sipush 500, 3) := by decide +kernel
theorem dX8_init_8 : decode cX8_init 8 = .ok (.newarray .int, 2) := by decide +kernel
theorem dX8_init_10 : decode cX8_init 10 = .ok (.putfield 9, 3) := by decide +kernel
theorem dX8_init_13 : decode cX8_init 13 = .ok (.aload_n 0, 1) := by decide +kernel
theorem dX8_init_14 : decode cX8_init 14 = .ok (.iconst (-1), 1) := by decide +kernel
theorem dX8_init_15 : decode cX8_init 15 = .ok (.putfield 13, 3) := by decide +kernel
theorem dX8_init_18 : decode cX8_init 18 = .ok (.aload_n 0, 1) := by decide +kernel
theorem dX8_init_19 : decode cX8_init 19 = .ok (.sipush 310, 3) := by decide +kernel
theorem dX8_init_22 : decode cX8_init 22 = .ok (.newarray .int, 2) := by decide +kernel
theorem dX8_init_24 : decode cX8_init 24 = .ok (.putfield 17, 3) := by decide +kernel
theorem dX8_init_27 : decode cX8_init 27 = .ok (.aload_n 0, 1) := by decide +kernel
theorem dX8_init_28 : decode cX8_init 28 = .ok (.sipush 310, 3) := by decide +kernel
theorem dX8_init_31 : decode cX8_init 31 = .ok (.newarray .int, 2) := by decide +kernel
theorem dX8_init_33 : decode cX8_init 33 = .ok (.putfield 20, 3) := by decide +kernel
theorem dX8_init_36 : decode cX8_init 36 = .ok (.aload_n 0, 1) := by decide +kernel
theorem dX8_init_37 : decode cX8_init 37 = .ok (.sipush 310, 3) := by decide +kernel
theorem dX8_init_40 : decode cX8_init 40 = .ok (.newarray .int, 2) := by decide +kernel
theorem dX8_init_42 : decode cX8_init 42 = .ok (.putfield 23, 3) := by decide +kernel
theorem dX8_init_45 : decode cX8_init 45 = .ok (.aload_n 0, 1) := by decide +kernel
theorem dX8_init_46 : decode cX8_init 46 = .ok (.bipush 8, 2) := by decide +kernel
theorem dX8_init_48 : decode cX8_init 48 = .ok (.sipush 310, 3) := by decide +kernel
theorem dX8_init_51 : decode cX8_init 51 = .ok (.multianewarray 26 2, 4) := by decide +kernel
theorem dX8_init_55 : decode cX8_init 55 = .ok (.putfield 28, 3) := by decide +kernel
theorem dX8_init_58 : decode cX8_init 58 = .ok (.aload_n 0, 1) := by decide +kernel
theorem dX8_init_59 : decode cX8_init 59 = .ok (.getfield 17, 3) := by decide +kernel
theorem dX8_init_62 : decode cX8_init 62 = .ok (.iconst 0, 1) := by decide +kernel
theorem dX8_init_63 : decode cX8_init 63 = .ok (.iconst 3, 1) := by decide +kernel
theorem dX8_init_64 : decode cX8_init 64 = .ok (.iastore, 1) := by decide +kernel
theorem dX8_init_65 : decode cX8_init 65 = .ok (.aload_n 0, 1) := by decide +kernel
theorem dX8_init_66 : decode cX8_init 66 = .ok (.getfield 17, 3) := by decide +kernel
theorem dX8_init_69 : decode cX8_init 69 = .ok (.iconst 1, 1) := by decide +kernel
theorem dX8_init_70 : decode cX8_init 70 = .ok (.iconst 2, 1) := by decide +kernel
theorem dX8_init_71 : decode cX8_init 71 = .ok (.iastore, 1) := by decide +kernel
theorem dX8_init_72 : decode cX8_init 72 = .ok (.return_, 1) := by decide +kernel
theorem dX8_thrown_0 : decode cX8_thrown 0 = .ok (.aload_n 0, 1) := by decide +kernel
theorem dX8_thrown_1 : decode cX8_thrown 1 = .ok (.getfield 31, 3) := by decide +kernel
theorem dX8_thrown_4 : decode cX8_thrown 4 = .ok (.ireturn, 1) := by decide +kernel
theorem dX8_fails_0 : decode cX8_fails 0 = .ok (.iload_n 1, 1) := by decide +kernel
theorem dX8_fails_1 : decode cX8_fails 1 = .ok (.ifCond .eq 15, 3) := by decide +kernel
theorem dX8_fails_4 : decode cX8_fails 4 = .ok (.aload_n 0, 1) := by decide +kernel
theorem dX8_fails_5 : decode cX8_fails 5 = .ok (.getfield 31, 3) := by decide +kernel
theorem dX8_fails_8 : decode cX8_fails 8 = .ok (.ifCond .ne 8, 3) := by decide +kernel
theorem dX8_fails_11 : decode cX8_fails 11 = .ok (.aload_n 0, 1) := by decide +kernel
theorem dX8_fails_12 : decode cX8_fails 12 = .ok (.iload_n 2, 1) := by decide +kernel
theorem dX8_fails_13 : decode cX8_fails 13 = .ok (.putfield 31, 3) := by decide +kernel
theorem dX8_fails_16 : decode cX8_fails 16 = .ok (.aload_n 0, 1) := by decide +kernel
theorem dX8_fails_17 : decode cX8_fails 17 = .ok (.getfield 31, 3) := by decide +kernel
theorem dX8_fails_20 : decode cX8_fails 20 = .ok (.ifCond .eq 7, 3) := by decide +kernel
theorem dX8_fails_23 : decode cX8_fails 23 = .ok (.iconst 1, 1) := by decide +kernel
theorem dX8_fails_24 : decode cX8_fails 24 = .ok (.goto 4, 3) := by decide +kernel
theorem dX8_fails_27 : decode cX8_fails 27 = .ok (.iconst 0, 1) := by decide +kernel
theorem dX8_fails_28 : decode cX8_fails 28 = .ok (.ireturn, 1) := by decide +kernel
theorem dX8_in_0 : decode cX8_in 0 = .ok (.iload_n 0, 1) := by decide +kernel
theorem dX8_in_1 : decode cX8_in 1 = .ok (.iload_n 1, 1) := by decide +kernel
theorem dX8_in_2 : decode cX8_in 2 = .ok (.if_icmp .lt 12, 3) := by decide +kernel
theorem dX8_in_5 : decode cX8_in 5 = .ok (.iload_n 0, 1) := by decide +kernel
theorem dX8_in_6 : decode cX8_in 6 = .ok (.iload_n 2, 1) := by decide +kernel
theorem dX8_in_7 : decode cX8_in 7 = .ok (.if_icmp .gt 7, 3) := by decide +kernel
theorem dX8_in_10 : decode cX8_in 10 = .ok (.iconst 1, 1) := by decide +kernel
theorem dX8_in_11 : decode cX8_in 11 = .ok (.goto 4, 3) := by decide +kernel
theorem dX8_in_14 : decode cX8_in 14 = .ok (.iconst 0, 1) := by decide +kernel
theorem dX8_in_15 : decode cX8_in 15 = .ok (.ireturn, 1) := by decide +kernel
theorem dX8_min_0 : decode cX8_min 0 = .ok (.iload_n 0, 1) := by decide +kernel
theorem dX8_min_1 : decode cX8_min 1 = .ok (.iload_n 1, 1) := by decide +kernel
theorem dX8_min_2 : decode cX8_min 2 = .ok (.if_icmp .ge 7, 3) := by decide +kernel
theorem dX8_min_5 : decode cX8_min 5 = .ok (.iload_n 0, 1) := by decide +kernel
theorem dX8_min_6 : decode cX8_min 6 = .ok (.goto 4, 3) := by decide +kernel
theorem dX8_min_9 : decode cX8_min 9 = .ok (.iload_n 1, 1) := by decide +kernel
theorem dX8_min_10 : decode cX8_min 10 = .ok (.ireturn, 1) := by decide +kernel
theorem dX8_max_0 : decode cX8_max 0 = .ok (.iload_n 0, 1) := by decide +kernel
theorem dX8_max_1 : decode cX8_max 1 = .ok (.iload_n 1, 1) := by decide +kernel
theorem dX8_max_2 : decode cX8_max 2 = .ok (.if_icmp .le 7, 3) := by decide +kernel
theorem dX8_max_5 : decode cX8_max 5 = .ok (.iload_n 0, 1) := by decide +kernel
theorem dX8_max_6 : decode cX8_max 6 = .ok (.goto 4, 3) := by decide +kernel
theorem dX8_max_9 : decode cX8_max 9 = .ok (.iload_n 1, 1) := by decide +kernel
theorem dX8_max_10 : decode cX8_max 10 = .ok (.ireturn, 1) := by decide +kernel
theorem dX8_size_0 : decode cX8_size 0 = .ok (.iload_n 0, 1) := by decide +kernel
theorem dX8_size_1 : decode cX8_size 1 = .ok (.ifCond .ge 8, 3) := by decide +kernel
theorem dX8_size_4 : decode cX8_size 4 = .ok (.iload_n 0, 1) := by decide +kernel
theorem dX8_size_5 : decode cX8_size 5 = .ok (.ineg, 1) := by decide +kernel
theorem dX8_size_6 : decode cX8_size 6 = .ok (.goto 4, 3) := by decide +kernel
theorem dX8_size_9 : decode cX8_size 9 = .ok (.iload_n 0, 1) := by decide +kernel
theorem dX8_size_10 : decode cX8_size 10 = .ok (.ireturn, 1) := by decide +kernel
theorem dX8_copy_0 : decode cX8_copy 0 = .ok (.iconst 0, 1) := by decide +kernel
theorem dX8_copy_1 : decode cX8_copy 1 = .ok (.istore_n 2, 1) := by decide +kernel
theorem dX8_copy_2 : decode cX8_copy 2 = .ok (.iload_n 2, 1) := by decide +kernel
theorem dX8_copy_3 : decode cX8_copy 3 = .ok (.sipush 310, 3) := by decide +kernel
theorem dX8_copy_6 : decode cX8_copy 6 = .ok (.if_icmp .ge 15, 3) := by decide +kernel
theorem dX8_copy_9 : decode cX8_copy 9 = .ok (.aload_n 1, 1) := by decide +kernel
theorem dX8_copy_10 : decode cX8_copy 10 = .ok (.iload_n 2, 1) := by decide +kernel
theorem dX8_copy_11 : decode cX8_copy 11 = .ok (.aload_n 0, 1) := by decide +kernel
theorem dX8_copy_12 : decode cX8_copy 12 = .ok (.iload_n 2, 1) := by decide +kernel
theorem dX8_copy_13 : decode cX8_copy 13 = .ok (.iaload, 1) := by decide +kernel
theorem dX8_copy_14 : decode cX8_copy 14 = .ok (.iastore, 1) := by decide +kernel
theorem dX8_copy_15 : decode cX8_copy 15 = .ok (.iinc 2 1, 3) := by decide +kernel
theorem dX8_copy_18 : decode cX8_copy 18 = .ok (.goto (-16), 3) := by decide +kernel
theorem dX8_copy_21 : decode cX8_copy 21 = .ok (.return_, 1) := by decide +kernel
theorem dX8_gateAt_0 : decode cX8_gateAt 0 = .ok (.bipush 16, 2) := by decide +kernel
theorem dX8_gateAt_2 : decode cX8_gateAt 2 = .ok (.bipush 29, 2) := by decide +kernel
theorem dX8_gateAt_4 : decode cX8_gateAt 4 = .ok (.iload_n 0, 1) := by decide +kernel
theorem dX8_gateAt_5 : decode cX8_gateAt 5 = .ok (.imul, 1) := by decide +kernel
theorem dX8_gateAt_6 : decode cX8_gateAt 6 = .ok (.iadd, 1) := by decide +kernel
theorem dX8_gateAt_7 : decode cX8_gateAt 7 = .ok (.iload_n 1, 1) := by decide +kernel
theorem dX8_gateAt_8 : decode cX8_gateAt 8 = .ok (.iadd, 1) := by decide +kernel
theorem dX8_gateAt_9 : decode cX8_gateAt 9 = .ok (.ireturn, 1) := by decide +kernel
theorem dX8_cardAt_0 : decode cX8_cardAt 0 = .ok (.sipush 190, 3) := by decide +kernel
theorem dX8_cardAt_3 : decode cX8_cardAt 3 = .ok (.bipush 10, 2) := by decide +kernel
theorem dX8_cardAt_5 : decode cX8_cardAt 5 = .ok (.iload_n 0, 1) := by decide +kernel
theorem dX8_cardAt_6 : decode cX8_cardAt 6 = .ok (.imul, 1) := by decide +kernel
theorem dX8_cardAt_7 : decode cX8_cardAt 7 = .ok (.iadd, 1) := by decide +kernel
theorem dX8_cardAt_8 : decode cX8_cardAt 8 = .ok (.iload_n 1, 1) := by decide +kernel
theorem dX8_cardAt_9 : decode cX8_cardAt 9 = .ok (.iadd, 1) := by decide +kernel
theorem dX8_cardAt_10 : decode cX8_cardAt 10 = .ok (.ireturn, 1) := by decide +kernel
theorem dX8_placeAt_0 : decode cX8_placeAt 0 = .ok (.iload_n 0, 1) := by decide +kernel
theorem dX8_placeAt_1 : decode cX8_placeAt 1 = .ok (.bipush 9, 2) := by decide +kernel
theorem dX8_placeAt_3 : decode cX8_placeAt 3 = .ok (.bipush 10, 2) := by decide +kernel
theorem dX8_placeAt_5 : decode cX8_placeAt 5 = .ok (.iload_n 1, 1) := by decide +kernel
theorem dX8_placeAt_6 : decode cX8_placeAt 6 = .ok (.imul, 1) := by decide +kernel
theorem dX8_placeAt_7 : decode cX8_placeAt 7 = .ok (.iadd, 1) := by decide +kernel
theorem dX8_placeAt_8 : decode cX8_placeAt 8 = .ok (.iload_n 2, 1) := by decide +kernel
theorem dX8_placeAt_9 : decode cX8_placeAt 9 = .ok (.iadd, 1) := by decide +kernel
theorem dX8_placeAt_10 : decode cX8_placeAt 10 = .ok (.invokestatic 34, 3) := by decide +kernel
theorem dX8_placeAt_13 : decode cX8_placeAt 13 = .ok (.ireturn, 1) := by decide +kernel
theorem dX8_many_0 : decode cX8_many 0 = .ok (.aload_n 0, 1) := by decide +kernel
theorem dX8_many_1 : decode cX8_many 1 = .ok (.iload_n 1, 1) := by decide +kernel
theorem dX8_many_2 : decode cX8_many 2 = .ok (.bipush 7, 2) := by decide +kernel
theorem dX8_many_4 : decode cX8_many 4 = .ok (.iload_n 2, 1) := by decide +kernel
theorem dX8_many_5 : decode cX8_many 5 = .ok (.iadd, 1) := by decide +kernel
theorem dX8_many_6 : decode cX8_many 6 = .ok (.invokestatic 34, 3) := by decide +kernel
theorem dX8_many_9 : decode cX8_many 9 = .ok (.iaload, 1) := by decide +kernel
theorem dX8_many_10 : decode cX8_many 10 = .ok (.ireturn, 1) := by decide +kernel
theorem dX8_inLines_0 : decode cX8_inLines 0 = .ok (.iconst 0, 1) := by decide +kernel
theorem dX8_inLines_1 : decode cX8_inLines 1 = .ok (.istore_n 2, 1) := by decide +kernel
theorem dX8_inLines_2 : decode cX8_inLines 2 = .ok (.iconst 0, 1) := by decide +kernel
theorem dX8_inLines_3 : decode cX8_inLines 3 = .ok (.istore_n 3, 1) := by decide +kernel
theorem dX8_inLines_4 : decode cX8_inLines 4 = .ok (.iload_n 3, 1) := by decide +kernel
theorem dX8_inLines_5 : decode cX8_inLines 5 = .ok (.aload_n 0, 1) := by decide +kernel
theorem dX8_inLines_6 : decode cX8_inLines 6 = .ok (.iconst 4, 1) := by decide +kernel
theorem dX8_inLines_7 : decode cX8_inLines 7 = .ok (.iaload, 1) := by decide +kernel
theorem dX8_inLines_8 : decode cX8_inLines 8 = .ok (.if_icmp .ge 18, 3) := by decide +kernel
theorem dX8_inLines_11 : decode cX8_inLines 11 = .ok (.iload_n 2, 1) := by decide +kernel
theorem dX8_inLines_12 : decode cX8_inLines 12 = .ok (.aload_n 0, 1) := by decide +kernel
theorem dX8_inLines_13 : decode cX8_inLines 13 = .ok (.iload_n 3, 1) := by decide +kernel
theorem dX8_inLines_14 : decode cX8_inLines 14 = .ok (.iload_n 1, 1) := by decide +kernel
theorem dX8_inLines_15 : decode cX8_inLines 15 = .ok (.invokestatic 38, 3) := by decide +kernel
theorem dX8_inLines_18 : decode cX8_inLines 18 = .ok (.iadd, 1) := by decide +kernel
theorem dX8_inLines_19 : decode cX8_inLines 19 = .ok (.istore_n 2, 1) := by decide +kernel
theorem dX8_inLines_20 : decode cX8_inLines 20 = .ok (.iinc 3 1, 3) := by decide +kernel
theorem dX8_inLines_23 : decode cX8_inLines 23 = .ok (.goto (-19), 3) := by decide +kernel
theorem dX8_inLines_26 : decode cX8_inLines 26 = .ok (.iload_n 2, 1) := by decide +kernel
theorem dX8_inLines_27 : decode cX8_inLines 27 = .ok (.ireturn, 1) := by decide +kernel
theorem dX8_serves_0 : decode cX8_serves 0 = .ok (.iload_n 0, 1) := by decide +kernel
theorem dX8_serves_1 : decode cX8_serves 1 = .ok (.iconst 2, 1) := by decide +kernel
theorem dX8_serves_2 : decode cX8_serves 2 = .ok (.if_icmp .eq 8, 3) := by decide +kernel
theorem dX8_serves_5 : decode cX8_serves 5 = .ok (.iload_n 0, 1) := by decide +kernel
theorem dX8_serves_6 : decode cX8_serves 6 = .ok (.iload_n 1, 1) := by decide +kernel
theorem dX8_serves_7 : decode cX8_serves 7 = .ok (.if_icmp .ne 7, 3) := by decide +kernel
theorem dX8_serves_10 : decode cX8_serves 10 = .ok (.iconst 1, 1) := by decide +kernel
theorem dX8_serves_11 : decode cX8_serves 11 = .ok (.goto 4, 3) := by decide +kernel
theorem dX8_serves_14 : decode cX8_serves 14 = .ok (.iconst 0, 1) := by decide +kernel
theorem dX8_serves_15 : decode cX8_serves 15 = .ok (.ireturn, 1) := by decide +kernel
theorem dX8_takes_0 : decode cX8_takes 0 = .ok (.aload_n 0, 1) := by decide +kernel
theorem dX8_takes_1 : decode cX8_takes 1 = .ok (.iload_n 1, 1) := by decide +kernel
theorem dX8_takes_2 : decode cX8_takes 2 = .ok (.iload_n 2, 1) := by decide +kernel
theorem dX8_takes_3 : decode cX8_takes 3 = .ok (.iload_n 3, 1) := by decide +kernel
theorem dX8_takes_4 : decode cX8_takes 4 = .ok (.invokestatic 42, 3) := by decide +kernel
theorem dX8_takes_7 : decode cX8_takes 7 = .ok (.iaload, 1) := by decide +kernel
theorem dX8_takes_8 : decode cX8_takes 8 = .ok (.istore 4, 2) := by decide +kernel
theorem dX8_takes_10 : decode cX8_takes 10 = .ok (.aload_n 0, 1) := by decide +kernel
theorem dX8_takes_11 : decode cX8_takes 11 = .ok (.iload_n 1, 1) := by decide +kernel
theorem dX8_takes_12 : decode cX8_takes 12 = .ok (.iload_n 2, 1) := by decide +kernel
theorem dX8_takes_13 : decode cX8_takes 13 = .ok (.invokestatic 38, 3) := by decide +kernel
theorem dX8_takes_16 : decode cX8_takes 16 = .ok (.iconst 1, 1) := by decide +kernel
theorem dX8_takes_17 : decode cX8_takes 17 = .ok (.isub, 1) := by decide +kernel
theorem dX8_takes_18 : decode cX8_takes 18 = .ok (.istore 5, 2) := by decide +kernel
theorem dX8_takes_20 : decode cX8_takes 20 = .ok (.iload_n 3, 1) := by decide +kernel
theorem dX8_takes_21 : decode cX8_takes 21 = .ok (.istore 6, 2) := by decide +kernel
theorem dX8_takes_23 : decode cX8_takes 23 = .ok (.iload 6, 2) := by decide +kernel
theorem dX8_takes_25 : decode cX8_takes 25 = .ok (.iload 5, 2) := by decide +kernel
theorem dX8_takes_27 : decode cX8_takes 27 = .ok (.if_icmp .ge 29, 3) := by decide +kernel
theorem dX8_takes_30 : decode cX8_takes 30 = .ok (.aload_n 0, 1) := by decide +kernel
theorem dX8_takes_31 : decode cX8_takes 31 = .ok (.iload_n 1, 1) := by decide +kernel
theorem dX8_takes_32 : decode cX8_takes 32 = .ok (.iload_n 2, 1) := by decide +kernel
theorem dX8_takes_33 : decode cX8_takes 33 = .ok (.iload 6, 2) := by decide +kernel
theorem dX8_takes_35 : decode cX8_takes 35 = .ok (.invokestatic 42, 3) := by decide +kernel
theorem dX8_takes_38 : decode cX8_takes 38 = .ok (.aload_n 0, 1) := by decide +kernel
theorem dX8_takes_39 : decode cX8_takes 39 = .ok (.iload_n 1, 1) := by decide +kernel
theorem dX8_takes_40 : decode cX8_takes 40 = .ok (.iload_n 2, 1) := by decide +kernel
theorem dX8_takes_41 : decode cX8_takes 41 = .ok (.iload 6, 2) := by decide +kernel
theorem dX8_takes_43 : decode cX8_takes 43 = .ok (.iconst 1, 1) := by decide +kernel
theorem dX8_takes_44 : decode cX8_takes 44 = .ok (.iadd, 1) := by decide +kernel
theorem dX8_takes_45 : decode cX8_takes 45 = .ok (.invokestatic 42, 3) := by decide +kernel
theorem dX8_takes_48 : decode cX8_takes 48 = .ok (.iaload, 1) := by decide +kernel
theorem dX8_takes_49 : decode cX8_takes 49 = .ok (.iastore, 1) := by decide +kernel
theorem dX8_takes_50 : decode cX8_takes 50 = .ok (.iinc 6 1, 3) := by decide +kernel
theorem dX8_takes_53 : decode cX8_takes 53 = .ok (.goto (-30), 3) := by decide +kernel
theorem dX8_takes_56 : decode cX8_takes 56 = .ok (.aload_n 0, 1) := by decide +kernel
theorem dX8_takes_57 : decode cX8_takes 57 = .ok (.iload_n 1, 1) := by decide +kernel
theorem dX8_takes_58 : decode cX8_takes 58 = .ok (.iload_n 2, 1) := by decide +kernel
theorem dX8_takes_59 : decode cX8_takes 59 = .ok (.iload 5, 2) := by decide +kernel
theorem dX8_takes_61 : decode cX8_takes 61 = .ok (.invokestatic 42, 3) := by decide +kernel
theorem dX8_takes_64 : decode cX8_takes 64 = .ok (.iconst 0, 1) := by decide +kernel
theorem dX8_takes_65 : decode cX8_takes 65 = .ok (.iastore, 1) := by decide +kernel
theorem dX8_takes_66 : decode cX8_takes 66 = .ok (.aload_n 0, 1) := by decide +kernel
theorem dX8_takes_67 : decode cX8_takes 67 = .ok (.iload_n 1, 1) := by decide +kernel
theorem dX8_takes_68 : decode cX8_takes 68 = .ok (.bipush 7, 2) := by decide +kernel
theorem dX8_takes_70 : decode cX8_takes 70 = .ok (.iload_n 2, 1) := by decide +kernel
theorem dX8_takes_71 : decode cX8_takes 71 = .ok (.iadd, 1) := by decide +kernel
theorem dX8_takes_72 : decode cX8_takes 72 = .ok (.invokestatic 34, 3) := by decide +kernel
theorem dX8_takes_75 : decode cX8_takes 75 = .ok (.dup2, 1) := by decide +kernel
theorem dX8_takes_76 : decode cX8_takes 76 = .ok (.iaload, 1) := by decide +kernel
theorem dX8_takes_77 : decode cX8_takes 77 = .ok (.iconst 1, 1) := by decide +kernel
theorem dX8_takes_78 : decode cX8_takes 78 = .ok (.isub, 1) := by decide +kernel
theorem dX8_takes_79 : decode cX8_takes 79 = .ok (.iastore, 1) := by decide +kernel
theorem dX8_takes_80 : decode cX8_takes 80 = .ok (.iload 4, 2) := by decide +kernel
theorem dX8_takes_82 : decode cX8_takes 82 = .ok (.ireturn, 1) := by decide +kernel
theorem dX8_whereIs_0 : decode cX8_whereIs 0 = .ok (.iconst 0, 1) := by decide +kernel
theorem dX8_whereIs_1 : decode cX8_whereIs 1 = .ok (.istore_n 3, 1) := by decide +kernel
theorem dX8_whereIs_2 : decode cX8_whereIs 2 = .ok (.iload_n 3, 1) := by decide +kernel
theorem dX8_whereIs_3 : decode cX8_whereIs 3 = .ok (.aload_n 0, 1) := by decide +kernel
theorem dX8_whereIs_4 : decode cX8_whereIs 4 = .ok (.iconst 4, 1) := by decide +kernel
theorem dX8_whereIs_5 : decode cX8_whereIs 5 = .ok (.iaload, 1) := by decide +kernel
theorem dX8_whereIs_6 : decode cX8_whereIs 6 = .ok (.if_icmp .ge 83, 3) := by decide +kernel
theorem dX8_whereIs_9 : decode cX8_whereIs 9 = .ok (.iconst 0, 1) := by decide +kernel
theorem dX8_whereIs_10 : decode cX8_whereIs 10 = .ok (.istore 4, 2) := by decide +kernel
theorem dX8_whereIs_12 : decode cX8_whereIs 12 = .ok (.iload 4, 2) := by decide +kernel
theorem dX8_whereIs_14 : decode cX8_whereIs 14 = .ok (.iconst 2, 1) := by decide +kernel
theorem dX8_whereIs_15 : decode cX8_whereIs 15 = .ok (.if_icmp .ge 68, 3) := by decide +kernel
theorem dX8_whereIs_18 : decode cX8_whereIs 18 = .ok (.iconst 0, 1) := by decide +kernel
theorem dX8_whereIs_19 : decode cX8_whereIs 19 = .ok (.istore 5, 2) := by decide +kernel
theorem dX8_whereIs_21 : decode cX8_whereIs 21 = .ok (.iload 5, 2) := by decide +kernel
theorem dX8_whereIs_23 : decode cX8_whereIs 23 = .ok (.aload_n 0, 1) := by decide +kernel
theorem dX8_whereIs_24 : decode cX8_whereIs 24 = .ok (.iload_n 3, 1) := by decide +kernel
theorem dX8_whereIs_25 : decode cX8_whereIs 25 = .ok (.iload 4, 2) := by decide +kernel
theorem dX8_whereIs_27 : decode cX8_whereIs 27 = .ok (.invokestatic 38, 3) := by decide +kernel
theorem dX8_whereIs_30 : decode cX8_whereIs 30 = .ok (.if_icmp .ge 47, 3) := by decide +kernel
theorem dX8_whereIs_33 : decode cX8_whereIs 33 = .ok (.aload_n 0, 1) := by decide +kernel
theorem dX8_whereIs_34 : decode cX8_whereIs 34 = .ok (.iload_n 3, 1) := by decide +kernel
theorem dX8_whereIs_35 : decode cX8_whereIs 35 = .ok (.iload 4, 2) := by decide +kernel
theorem dX8_whereIs_37 : decode cX8_whereIs 37 = .ok (.iload 5, 2) := by decide +kernel
theorem dX8_whereIs_39 : decode cX8_whereIs 39 = .ok (.invokestatic 42, 3) := by decide +kernel
theorem dX8_whereIs_42 : decode cX8_whereIs 42 = .ok (.iaload, 1) := by decide +kernel
theorem dX8_whereIs_43 : decode cX8_whereIs 43 = .ok (.iload_n 1, 1) := by decide +kernel
theorem dX8_whereIs_44 : decode cX8_whereIs 44 = .ok (.iconst 1, 1) := by decide +kernel
theorem dX8_whereIs_45 : decode cX8_whereIs 45 = .ok (.iadd, 1) := by decide +kernel
theorem dX8_whereIs_46 : decode cX8_whereIs 46 = .ok (.if_icmp .ne 25, 3) := by decide +kernel
theorem dX8_whereIs_49 : decode cX8_whereIs 49 = .ok (.iload_n 2, 1) := by decide +kernel
theorem dX8_whereIs_50 : decode cX8_whereIs 50 = .ok (.iconst 3, 1) := by decide +kernel
theorem dX8_whereIs_51 : decode cX8_whereIs 51 = .ok (.if_icmp .ne 7, 3) := by decide +kernel
theorem dX8_whereIs_54 : decode cX8_whereIs 54 = .ok (.iload_n 3, 1) := by decide +kernel
theorem dX8_whereIs_55 : decode cX8_whereIs 55 = .ok (.goto 15, 3) := by decide +kernel
theorem dX8_whereIs_58 : decode cX8_whereIs 58 = .ok (.iload_n 2, 1) := by decide +kernel
theorem dX8_whereIs_59 : decode cX8_whereIs 59 = .ok (.iconst 4, 1) := by decide +kernel
theorem dX8_whereIs_60 : decode cX8_whereIs 60 = .ok (.if_icmp .ne 8, 3) := by decide +kernel
theorem dX8_whereIs_63 : decode cX8_whereIs 63 = .ok (.iload 4, 2) := by decide +kernel
theorem dX8_whereIs_65 : decode cX8_whereIs 65 = .ok (.goto 5, 3) := by decide +kernel
theorem dX8_whereIs_68 : decode cX8_whereIs 68 = .ok (.iload 5, 2) := by decide +kernel
theorem dX8_whereIs_70 : decode cX8_whereIs 70 = .ok (.ireturn, 1) := by decide +kernel
theorem dX8_whereIs_71 : decode cX8_whereIs 71 = .ok (.iinc 5 1, 3) := by decide +kernel
theorem dX8_whereIs_74 : decode cX8_whereIs 74 = .ok (.goto (-53), 3) := by decide +kernel
theorem dX8_whereIs_77 : decode cX8_whereIs 77 = .ok (.iinc 4 1, 3) := by decide +kernel
theorem dX8_whereIs_80 : decode cX8_whereIs 80 = .ok (.goto (-68), 3) := by decide +kernel
theorem dX8_whereIs_83 : decode cX8_whereIs 83 = .ok (.iinc 3 1, 3) := by decide +kernel
theorem dX8_whereIs_86 : decode cX8_whereIs 86 = .ok (.goto (-84), 3) := by decide +kernel
theorem dX8_whereIs_89 : decode cX8_whereIs 89 = .ok (.iconst (-1), 1) := by decide +kernel
theorem dX8_whereIs_90 : decode cX8_whereIs 90 = .ok (.ireturn, 1) := by decide +kernel
theorem dX8_against_0 : decode cX8_against 0 = .ok (.aload_n 0, 1) := by decide +kernel
theorem dX8_against_1 : decode cX8_against 1 = .ok (.iload_n 1, 1) := by decide +kernel
theorem dX8_against_2 : decode cX8_against 2 = .ok (.iconst 0, 1) := by decide +kernel
theorem dX8_against_3 : decode cX8_against 3 = .ok (.invokestatic 34, 3) := by decide +kernel
theorem dX8_against_6 : decode cX8_against 6 = .ok (.iaload, 1) := by decide +kernel
theorem dX8_against_7 : decode cX8_against 7 = .ok (.iload_n 2, 1) := by decide +kernel
theorem dX8_against_8 : decode cX8_against 8 = .ok (.invokestatic 46, 3) := by decide +kernel
theorem dX8_against_11 : decode cX8_against 11 = .ok (.ifCond .ne 5, 3) := by decide +kernel
theorem dX8_against_14 : decode cX8_against 14 = .ok (.iconst 1, 1) := by decide +kernel
theorem dX8_against_15 : decode cX8_against 15 = .ok (.ireturn, 1) := by decide +kernel
theorem dX8_against_16 : decode cX8_against 16 = .ok (.aload_n 0, 1) := by decide +kernel
theorem dX8_against_17 : decode cX8_against 17 = .ok (.iload_n 1, 1) := by decide +kernel
theorem dX8_against_18 : decode cX8_against 18 = .ok (.iload_n 2, 1) := by decide +kernel
theorem dX8_against_19 : decode cX8_against 19 = .ok (.invokestatic 38, 3) := by decide +kernel
theorem dX8_against_22 : decode cX8_against 22 = .ok (.bipush 10, 2) := by decide +kernel
theorem dX8_against_24 : decode cX8_against 24 = .ok (.if_icmp .ne 5, 3) := by decide +kernel
theorem dX8_against_27 : decode cX8_against 27 = .ok (.iconst 2, 1) := by decide +kernel
theorem dX8_against_28 : decode cX8_against 28 = .ok (.ireturn, 1) := by decide +kernel
theorem dX8_against_29 : decode cX8_against 29 = .ok (.iload_n 3, 1) := by decide +kernel
theorem dX8_against_30 : decode cX8_against 30 = .ok (.iconst (-1), 1) := by decide +kernel
theorem dX8_against_31 : decode cX8_against 31 = .ok (.if_icmp .eq 15, 3) := by decide +kernel
theorem dX8_against_34 : decode cX8_against 34 = .ok (.aload_n 0, 1) := by decide +kernel
theorem dX8_against_35 : decode cX8_against 35 = .ok (.iload_n 3, 1) := by decide +kernel
theorem dX8_against_36 : decode cX8_against 36 = .ok (.iconst 3, 1) := by decide +kernel
theorem dX8_against_37 : decode cX8_against 37 = .ok (.invokestatic 50, 3) := by decide +kernel
theorem dX8_against_40 : decode cX8_against 40 = .ok (.iconst (-1), 1) := by decide +kernel
theorem dX8_against_41 : decode cX8_against 41 = .ok (.if_icmp .eq 5, 3) := by decide +kernel
theorem dX8_against_44 : decode cX8_against 44 = .ok (.iconst 3, 1) := by decide +kernel
theorem dX8_against_45 : decode cX8_against 45 = .ok (.ireturn, 1) := by decide +kernel
theorem dX8_against_46 : decode cX8_against 46 = .ok (.iload_n 2, 1) := by decide +kernel
theorem dX8_against_47 : decode cX8_against 47 = .ok (.iconst 1, 1) := by decide +kernel
theorem dX8_against_48 : decode cX8_against 48 = .ok (.if_icmp .ne 18, 3) := by decide +kernel
theorem dX8_against_51 : decode cX8_against 51 = .ok (.aload_n 0, 1) := by decide +kernel
theorem dX8_against_52 : decode cX8_against 52 = .ok (.iconst 1, 1) := by decide +kernel
theorem dX8_against_53 : decode cX8_against 53 = .ok (.invokestatic 53, 3) := by decide +kernel
theorem dX8_against_56 : decode cX8_against 56 = .ok (.aload_n 0, 1) := by decide +kernel
theorem dX8_against_57 : decode cX8_against 57 = .ok (.iconst 3, 1) := by decide +kernel
theorem dX8_against_58 : decode cX8_against 58 = .ok (.iaload, 1) := by decide +kernel
theorem dX8_against_59 : decode cX8_against 59 = .ok (.if_icmp .lt 7, 3) := by decide +kernel
theorem dX8_against_62 : decode cX8_against 62 = .ok (.iconst 4, 1) := by decide +kernel
theorem dX8_against_63 : decode cX8_against 63 = .ok (.goto 4, 3) := by decide +kernel
theorem dX8_against_66 : decode cX8_against 66 = .ok (.iconst 0, 1) := by decide +kernel
theorem dX8_against_67 : decode cX8_against 67 = .ok (.ireturn, 1) := by decide +kernel
theorem dX8_joins_0 : decode cX8_joins 0 = .ok (.aload_n 0, 1) := by decide +kernel
theorem dX8_joins_1 : decode cX8_joins 1 = .ok (.iload_n 1, 1) := by decide +kernel
theorem dX8_joins_2 : decode cX8_joins 2 = .ok (.iload_n 2, 1) := by decide +kernel
theorem dX8_joins_3 : decode cX8_joins 3 = .ok (.iload_n 3, 1) := by decide +kernel
theorem dX8_joins_4 : decode cX8_joins 4 = .ok (.invokestatic 57, 3) := by decide +kernel
theorem dX8_joins_7 : decode cX8_joins 7 = .ok (.istore 4, 2) := by decide +kernel
theorem dX8_joins_9 : decode cX8_joins 9 = .ok (.iload 4, 2) := by decide +kernel
theorem dX8_joins_11 : decode cX8_joins 11 = .ok (.ifCond .le 7, 3) := by decide +kernel
theorem dX8_joins_14 : decode cX8_joins 14 = .ok (.iload 4, 2) := by decide +kernel
theorem dX8_joins_16 : decode cX8_joins 16 = .ok (.ineg, 1) := by decide +kernel
theorem dX8_joins_17 : decode cX8_joins 17 = .ok (.ireturn, 1) := by decide +kernel
theorem dX8_joins_18 : decode cX8_joins 18 = .ok (.aload_n 0, 1) := by decide +kernel
theorem dX8_joins_19 : decode cX8_joins 19 = .ok (.iload_n 1, 1) := by decide +kernel
theorem dX8_joins_20 : decode cX8_joins 20 = .ok (.iload_n 2, 1) := by decide +kernel
theorem dX8_joins_21 : decode cX8_joins 21 = .ok (.aload_n 0, 1) := by decide +kernel
theorem dX8_joins_22 : decode cX8_joins 22 = .ok (.iload_n 1, 1) := by decide +kernel
theorem dX8_joins_23 : decode cX8_joins 23 = .ok (.iload_n 2, 1) := by decide +kernel
theorem dX8_joins_24 : decode cX8_joins 24 = .ok (.invokestatic 38, 3) := by decide +kernel
theorem dX8_joins_27 : decode cX8_joins 27 = .ok (.invokestatic 42, 3) := by decide +kernel
theorem dX8_joins_30 : decode cX8_joins 30 = .ok (.iload_n 3, 1) := by decide +kernel
theorem dX8_joins_31 : decode cX8_joins 31 = .ok (.iconst 1, 1) := by decide +kernel
theorem dX8_joins_32 : decode cX8_joins 32 = .ok (.iadd, 1) := by decide +kernel
theorem dX8_joins_33 : decode cX8_joins 33 = .ok (.iastore, 1) := by decide +kernel
theorem dX8_joins_34 : decode cX8_joins 34 = .ok (.aload_n 0, 1) := by decide +kernel
theorem dX8_joins_35 : decode cX8_joins 35 = .ok (.iload_n 1, 1) := by decide +kernel
theorem dX8_joins_36 : decode cX8_joins 36 = .ok (.bipush 7, 2) := by decide +kernel
theorem dX8_joins_38 : decode cX8_joins 38 = .ok (.iload_n 2, 1) := by decide +kernel
theorem dX8_joins_39 : decode cX8_joins 39 = .ok (.iadd, 1) := by decide +kernel
theorem dX8_joins_40 : decode cX8_joins 40 = .ok (.invokestatic 34, 3) := by decide +kernel
theorem dX8_joins_43 : decode cX8_joins 43 = .ok (.dup2, 1) := by decide +kernel
theorem dX8_joins_44 : decode cX8_joins 44 = .ok (.iaload, 1) := by decide +kernel
theorem dX8_joins_45 : decode cX8_joins 45 = .ok (.iconst 1, 1) := by decide +kernel
theorem dX8_joins_46 : decode cX8_joins 46 = .ok (.iadd, 1) := by decide +kernel
theorem dX8_joins_47 : decode cX8_joins 47 = .ok (.iastore, 1) := by decide +kernel
theorem dX8_joins_48 : decode cX8_joins 48 = .ok (.aload_n 0, 1) := by decide +kernel
theorem dX8_joins_49 : decode cX8_joins 49 = .ok (.iload_n 1, 1) := by decide +kernel
theorem dX8_joins_50 : decode cX8_joins 50 = .ok (.iload_n 2, 1) := by decide +kernel
theorem dX8_joins_51 : decode cX8_joins 51 = .ok (.invokestatic 38, 3) := by decide +kernel
theorem dX8_joins_54 : decode cX8_joins 54 = .ok (.ireturn, 1) := by decide +kernel
theorem dX8_refusal_0 : decode cX8_refusal 0 = .ok (.aload_n 0, 1) := by decide +kernel
theorem dX8_refusal_1 : decode cX8_refusal 1 = .ok (.iload_n 1, 1) := by decide +kernel
theorem dX8_refusal_2 : decode cX8_refusal 2 = .ok (.iconst 2, 1) := by decide +kernel
theorem dX8_refusal_3 : decode cX8_refusal 3 = .ok (.invokestatic 61, 3) := by decide +kernel
theorem dX8_refusal_6 : decode cX8_refusal 6 = .ok (.iaload, 1) := by decide +kernel
theorem dX8_refusal_7 : decode cX8_refusal 7 = .ok (.iconst 1, 1) := by decide +kernel
theorem dX8_refusal_8 : decode cX8_refusal 8 = .ok (.if_icmp .ne 5, 3) := by decide +kernel
theorem dX8_refusal_11 : decode cX8_refusal 11 = .ok (.iconst 1, 1) := by decide +kernel
theorem dX8_refusal_12 : decode cX8_refusal 12 = .ok (.ireturn, 1) := by decide +kernel
theorem dX8_refusal_13 : decode cX8_refusal 13 = .ok (.aload_n 0, 1) := by decide +kernel
theorem dX8_refusal_14 : decode cX8_refusal 14 = .ok (.iload_n 1, 1) := by decide +kernel
theorem dX8_refusal_15 : decode cX8_refusal 15 = .ok (.iconst 1, 1) := by decide +kernel
theorem dX8_refusal_16 : decode cX8_refusal 16 = .ok (.invokestatic 61, 3) := by decide +kernel
theorem dX8_refusal_19 : decode cX8_refusal 19 = .ok (.iaload, 1) := by decide +kernel
theorem dX8_refusal_20 : decode cX8_refusal 20 = .ok (.iload_n 2, 1) := by decide +kernel
theorem dX8_refusal_21 : decode cX8_refusal 21 = .ok (.if_icmp .eq 5, 3) := by decide +kernel
theorem dX8_refusal_24 : decode cX8_refusal 24 = .ok (.iconst 2, 1) := by decide +kernel
theorem dX8_refusal_25 : decode cX8_refusal 25 = .ok (.ireturn, 1) := by decide +kernel
theorem dX8_refusal_26 : decode cX8_refusal 26 = .ok (.iload_n 2, 1) := by decide +kernel
theorem dX8_refusal_27 : decode cX8_refusal 27 = .ok (.ifCond .ne 17, 3) := by decide +kernel
theorem dX8_refusal_30 : decode cX8_refusal 30 = .ok (.aload_n 0, 1) := by decide +kernel
theorem dX8_refusal_31 : decode cX8_refusal 31 = .ok (.iload_n 1, 1) := by decide +kernel
theorem dX8_refusal_32 : decode cX8_refusal 32 = .ok (.iconst 0, 1) := by decide +kernel
theorem dX8_refusal_33 : decode cX8_refusal 33 = .ok (.invokestatic 61, 3) := by decide +kernel
theorem dX8_refusal_36 : decode cX8_refusal 36 = .ok (.iaload, 1) := by decide +kernel
theorem dX8_refusal_37 : decode cX8_refusal 37 = .ok (.ifCond .ne 7, 3) := by decide +kernel
theorem dX8_refusal_40 : decode cX8_refusal 40 = .ok (.iconst 3, 1) := by decide +kernel
theorem dX8_refusal_41 : decode cX8_refusal 41 = .ok (.goto 4, 3) := by decide +kernel
theorem dX8_refusal_44 : decode cX8_refusal 44 = .ok (.iconst 0, 1) := by decide +kernel
theorem dX8_refusal_45 : decode cX8_refusal 45 = .ok (.ireturn, 1) := by decide +kernel
theorem dX8_keys_0 : decode cX8_keys 0 = .ok (.aload_n 0, 1) := by decide +kernel
theorem dX8_keys_1 : decode cX8_keys 1 = .ok (.bipush 6, 2) := by decide +kernel
theorem dX8_keys_3 : decode cX8_keys 3 = .ok (.iaload, 1) := by decide +kernel
theorem dX8_keys_4 : decode cX8_keys 4 = .ok (.aload_n 0, 1) := by decide +kernel
theorem dX8_keys_5 : decode cX8_keys 5 = .ok (.bipush 7, 2) := by decide +kernel
theorem dX8_keys_7 : decode cX8_keys 7 = .ok (.iaload, 1) := by decide +kernel
theorem dX8_keys_8 : decode cX8_keys 8 = .ok (.iadd, 1) := by decide +kernel
theorem dX8_keys_9 : decode cX8_keys 9 = .ok (.aload_n 0, 1) := by decide +kernel
theorem dX8_keys_10 : decode cX8_keys 10 = .ok (.bipush 8, 2) := by decide +kernel
theorem dX8_keys_12 : decode cX8_keys 12 = .ok (.iaload, 1) := by decide +kernel
theorem dX8_keys_13 : decode cX8_keys 13 = .ok (.iadd, 1) := by decide +kernel
theorem dX8_keys_14 : decode cX8_keys 14 = .ok (.ireturn, 1) := by decide +kernel
theorem dX8_isPanic_0 : decode cX8_isPanic 0 = .ok (.aload_n 0, 1) := by decide +kernel
theorem dX8_isPanic_1 : decode cX8_isPanic 1 = .ok (.invokestatic 64, 3) := by decide +kernel
theorem dX8_isPanic_4 : decode cX8_isPanic 4 = .ok (.iconst 1, 1) := by decide +kernel
theorem dX8_isPanic_5 : decode cX8_isPanic 5 = .ok (.if_icmp .le 7, 3) := by decide +kernel
theorem dX8_isPanic_8 : decode cX8_isPanic 8 = .ok (.iconst 1, 1) := by decide +kernel
theorem dX8_isPanic_9 : decode cX8_isPanic 9 = .ok (.goto 4, 3) := by decide +kernel
theorem dX8_isPanic_12 : decode cX8_isPanic 12 = .ok (.iconst 0, 1) := by decide +kernel
theorem dX8_isPanic_13 : decode cX8_isPanic 13 = .ok (.ireturn, 1) := by decide +kernel
theorem dX8_goes_0 : decode cX8_goes 0 = .ok (.aload_n 0, 1) := by decide +kernel
theorem dX8_goes_1 : decode cX8_goes 1 = .ok (.iload_n 1, 1) := by decide +kernel
theorem dX8_goes_2 : decode cX8_goes 2 = .ok (.iload_n 2, 1) := by decide +kernel
theorem dX8_goes_3 : decode cX8_goes 3 = .ok (.iconst 0, 1) := by decide +kernel
theorem dX8_goes_4 : decode cX8_goes 4 = .ok (.invokestatic 68, 3) := by decide +kernel
theorem dX8_goes_7 : decode cX8_goes 7 = .ok (.iconst 1, 1) := by decide +kernel
theorem dX8_goes_8 : decode cX8_goes 8 = .ok (.isub, 1) := by decide +kernel
theorem dX8_goes_9 : decode cX8_goes 9 = .ok (.istore 4, 2) := by decide +kernel
theorem dX8_goes_11 : decode cX8_goes 11 = .ok (.aload_n 0, 1) := by decide +kernel
theorem dX8_goes_12 : decode cX8_goes 12 = .ok (.iload_n 2, 1) := by decide +kernel
theorem dX8_goes_13 : decode cX8_goes 13 = .ok (.ifCond .ne 8, 3) := by decide +kernel
theorem dX8_goes_16 : decode cX8_goes 16 = .ok (.bipush 9, 2) := by decide +kernel
theorem dX8_goes_18 : decode cX8_goes 18 = .ok (.goto 5, 3) := by decide +kernel
theorem dX8_goes_21 : decode cX8_goes 21 = .ok (.bipush 10, 2) := by decide +kernel
theorem dX8_goes_23 : decode cX8_goes 23 = .ok (.dup2, 1) := by decide +kernel
theorem dX8_goes_24 : decode cX8_goes 24 = .ok (.iaload, 1) := by decide +kernel
theorem dX8_goes_25 : decode cX8_goes 25 = .ok (.iconst 1, 1) := by decide +kernel
theorem dX8_goes_26 : decode cX8_goes 26 = .ok (.iadd, 1) := by decide +kernel
theorem dX8_goes_27 : decode cX8_goes 27 = .ok (.iastore, 1) := by decide +kernel
theorem dX8_goes_28 : decode cX8_goes 28 = .ok (.aload_n 0, 1) := by decide +kernel
theorem dX8_goes_29 : decode cX8_goes 29 = .ok (.iconst 3, 1) := by decide +kernel
theorem dX8_goes_30 : decode cX8_goes 30 = .ok (.dup2, 1) := by decide +kernel
theorem dX8_goes_31 : decode cX8_goes 31 = .ok (.iaload, 1) := by decide +kernel
theorem dX8_goes_32 : decode cX8_goes 32 = .ok (.iload_n 2, 1) := by decide +kernel
theorem dX8_goes_33 : decode cX8_goes 33 = .ok (.ifCond .ne 7, 3) := by decide +kernel
theorem dX8_goes_36 : decode cX8_goes 36 = .ok (.iconst 1, 1) := by decide +kernel
theorem dX8_goes_37 : decode cX8_goes 37 = .ok (.goto 4, 3) := by decide +kernel
theorem dX8_goes_40 : decode cX8_goes 40 = .ok (.iconst (-1), 1) := by decide +kernel
theorem dX8_goes_41 : decode cX8_goes 41 = .ok (.iadd, 1) := by decide +kernel
theorem dX8_goes_42 : decode cX8_goes 42 = .ok (.iastore, 1) := by decide +kernel
theorem dX8_goes_43 : decode cX8_goes 43 = .ok (.iload 4, 2) := by decide +kernel
theorem dX8_goes_45 : decode cX8_goes 45 = .ok (.iconst (-1), 1) := by decide +kernel
theorem dX8_goes_46 : decode cX8_goes 46 = .ok (.if_icmp .ne 4, 3) := by decide +kernel
theorem dX8_goes_49 : decode cX8_goes 49 = .ok (.return_, 1) := by decide +kernel
theorem dX8_goes_50 : decode cX8_goes 50 = .ok (.aload_n 0, 1) := by decide +kernel
theorem dX8_goes_51 : decode cX8_goes 51 = .ok (.iload 4, 2) := by decide +kernel
theorem dX8_goes_53 : decode cX8_goes 53 = .ok (.iconst 1, 1) := by decide +kernel
theorem dX8_goes_54 : decode cX8_goes 54 = .ok (.invokestatic 61, 3) := by decide +kernel
theorem dX8_goes_57 : decode cX8_goes 57 = .ok (.iconst 1, 1) := by decide +kernel
theorem dX8_goes_58 : decode cX8_goes 58 = .ok (.iload_n 2, 1) := by decide +kernel
theorem dX8_goes_59 : decode cX8_goes 59 = .ok (.isub, 1) := by decide +kernel
theorem dX8_goes_60 : decode cX8_goes 60 = .ok (.iastore, 1) := by decide +kernel
theorem dX8_goes_61 : decode cX8_goes 61 = .ok (.aload_n 0, 1) := by decide +kernel
theorem dX8_goes_62 : decode cX8_goes 62 = .ok (.iload 4, 2) := by decide +kernel
theorem dX8_goes_64 : decode cX8_goes 64 = .ok (.iconst 0, 1) := by decide +kernel
theorem dX8_goes_65 : decode cX8_goes 65 = .ok (.invokestatic 61, 3) := by decide +kernel
theorem dX8_goes_68 : decode cX8_goes 68 = .ok (.dup2, 1) := by decide +kernel
theorem dX8_goes_69 : decode cX8_goes 69 = .ok (.iaload, 1) := by decide +kernel
theorem dX8_goes_70 : decode cX8_goes 70 = .ok (.iload_n 2, 1) := by decide +kernel
theorem dX8_goes_71 : decode cX8_goes 71 = .ok (.ifCond .ne 11, 3) := by decide +kernel
theorem dX8_goes_74 : decode cX8_goes 74 = .ok (.iload_n 3, 1) := by decide +kernel
theorem dX8_goes_75 : decode cX8_goes 75 = .ok (.ifCond .eq 7, 3) := by decide +kernel
theorem dX8_goes_78 : decode cX8_goes 78 = .ok (.iconst 1, 1) := by decide +kernel
theorem dX8_goes_79 : decode cX8_goes 79 = .ok (.goto 4, 3) := by decide +kernel
theorem dX8_goes_82 : decode cX8_goes 82 = .ok (.iconst 0, 1) := by decide +kernel
theorem dX8_goes_83 : decode cX8_goes 83 = .ok (.isub, 1) := by decide +kernel
theorem dX8_goes_84 : decode cX8_goes 84 = .ok (.iastore, 1) := by decide +kernel
theorem dX8_goes_85 : decode cX8_goes 85 = .ok (.aload_n 0, 1) := by decide +kernel
theorem dX8_goes_86 : decode cX8_goes 86 = .ok (.iload 4, 2) := by decide +kernel
theorem dX8_goes_88 : decode cX8_goes 88 = .ok (.iconst 3, 1) := by decide +kernel
theorem dX8_goes_89 : decode cX8_goes 89 = .ok (.invokestatic 61, 3) := by decide +kernel
theorem dX8_goes_92 : decode cX8_goes 92 = .ok (.dup2, 1) := by decide +kernel
theorem dX8_goes_93 : decode cX8_goes 93 = .ok (.iaload, 1) := by decide +kernel
theorem dX8_goes_94 : decode cX8_goes 94 = .ok (.iconst 1, 1) := by decide +kernel
theorem dX8_goes_95 : decode cX8_goes 95 = .ok (.iadd, 1) := by decide +kernel
theorem dX8_goes_96 : decode cX8_goes 96 = .ok (.iastore, 1) := by decide +kernel
theorem dX8_goes_97 : decode cX8_goes 97 = .ok (.return_, 1) := by decide +kernel
theorem dX8_turnOf_0 : decode cX8_turnOf 0 = .ok (.aload_n 0, 1) := by decide +kernel
theorem dX8_turnOf_1 : decode cX8_turnOf 1 = .ok (.iload_n 1, 1) := by decide +kernel
theorem dX8_turnOf_2 : decode cX8_turnOf 2 = .ok (.iconst 0, 1) := by decide +kernel
theorem dX8_turnOf_3 : decode cX8_turnOf 3 = .ok (.invokestatic 34, 3) := by decide +kernel
theorem dX8_turnOf_6 : decode cX8_turnOf 6 = .ok (.iaload, 1) := by decide +kernel
theorem dX8_turnOf_7 : decode cX8_turnOf 7 = .ok (.istore_n 2, 1) := by decide +kernel
theorem dX8_turnOf_8 : decode cX8_turnOf 8 = .ok (.aload_n 0, 1) := by decide +kernel
theorem dX8_turnOf_9 : decode cX8_turnOf 9 = .ok (.iload_n 1, 1) := by decide +kernel
theorem dX8_turnOf_10 : decode cX8_turnOf 10 = .ok (.iconst 0, 1) := by decide +kernel
theorem dX8_turnOf_11 : decode cX8_turnOf 11 = .ok (.invokestatic 38, 3) := by decide +kernel
theorem dX8_turnOf_14 : decode cX8_turnOf 14 = .ok (.istore_n 3, 1) := by decide +kernel
theorem dX8_turnOf_15 : decode cX8_turnOf 15 = .ok (.aload_n 0, 1) := by decide +kernel
theorem dX8_turnOf_16 : decode cX8_turnOf 16 = .ok (.iload_n 1, 1) := by decide +kernel
theorem dX8_turnOf_17 : decode cX8_turnOf 17 = .ok (.iconst 1, 1) := by decide +kernel
theorem dX8_turnOf_18 : decode cX8_turnOf 18 = .ok (.invokestatic 38, 3) := by decide +kernel
theorem dX8_turnOf_21 : decode cX8_turnOf 21 = .ok (.istore 4, 2) := by decide +kernel
theorem dX8_turnOf_23 : decode cX8_turnOf 23 = .ok (.iload_n 2, 1) := by decide +kernel
theorem dX8_turnOf_24 : decode cX8_turnOf 24 = .ok (.iconst 2, 1) := by decide +kernel
theorem dX8_turnOf_25 : decode cX8_turnOf 25 = .ok (.if_icmp .ge 5, 3) := by decide +kernel
theorem dX8_turnOf_28 : decode cX8_turnOf 28 = .ok (.iload_n 2, 1) := by decide +kernel
theorem dX8_turnOf_29 : decode cX8_turnOf 29 = .ok (.ireturn, 1) := by decide +kernel
theorem dX8_turnOf_30 : decode cX8_turnOf 30 = .ok (.iload_n 3, 1) := by decide +kernel
theorem dX8_turnOf_31 : decode cX8_turnOf 31 = .ok (.iload 4, 2) := by decide +kernel
theorem dX8_turnOf_33 : decode cX8_turnOf 33 = .ok (.if_icmp .eq 15, 3) := by decide +kernel
theorem dX8_turnOf_36 : decode cX8_turnOf 36 = .ok (.iload_n 3, 1) := by decide +kernel
theorem dX8_turnOf_37 : decode cX8_turnOf 37 = .ok (.iload 4, 2) := by decide +kernel
theorem dX8_turnOf_39 : decode cX8_turnOf 39 = .ok (.if_icmp .le 7, 3) := by decide +kernel
theorem dX8_turnOf_42 : decode cX8_turnOf 42 = .ok (.iconst 0, 1) := by decide +kernel
theorem dX8_turnOf_43 : decode cX8_turnOf 43 = .ok (.goto 4, 3) := by decide +kernel
theorem dX8_turnOf_46 : decode cX8_turnOf 46 = .ok (.iconst 1, 1) := by decide +kernel
theorem dX8_turnOf_47 : decode cX8_turnOf 47 = .ok (.ireturn, 1) := by decide +kernel
theorem dX8_turnOf_48 : decode cX8_turnOf 48 = .ok (.aload_n 0, 1) := by decide +kernel
theorem dX8_turnOf_49 : decode cX8_turnOf 49 = .ok (.iload_n 1, 1) := by decide +kernel
theorem dX8_turnOf_50 : decode cX8_turnOf 50 = .ok (.bipush 6, 2) := by decide +kernel
theorem dX8_turnOf_52 : decode cX8_turnOf 52 = .ok (.invokestatic 34, 3) := by decide +kernel
theorem dX8_turnOf_55 : decode cX8_turnOf 55 = .ok (.iaload, 1) := by decide +kernel
theorem dX8_turnOf_56 : decode cX8_turnOf 56 = .ok (.iconst 1, 1) := by decide +kernel
theorem dX8_turnOf_57 : decode cX8_turnOf 57 = .ok (.if_icmp .ne 7, 3) := by decide +kernel
theorem dX8_turnOf_60 : decode cX8_turnOf 60 = .ok (.iconst 1, 1) := by decide +kernel
theorem dX8_turnOf_61 : decode cX8_turnOf 61 = .ok (.goto 4, 3) := by decide +kernel
theorem dX8_turnOf_64 : decode cX8_turnOf 64 = .ok (.iconst 0, 1) := by decide +kernel
theorem dX8_turnOf_65 : decode cX8_turnOf 65 = .ok (.ireturn, 1) := by decide +kernel
theorem dX8_flees_0 : decode cX8_flees 0 = .ok (.aload_n 0, 1) := by decide +kernel
theorem dX8_flees_1 : decode cX8_flees 1 = .ok (.iconst 1, 1) := by decide +kernel
theorem dX8_flees_2 : decode cX8_flees 2 = .ok (.iaload, 1) := by decide +kernel
theorem dX8_flees_3 : decode cX8_flees 3 = .ok (.aload_n 0, 1) := by decide +kernel
theorem dX8_flees_4 : decode cX8_flees 4 = .ok (.iload_n 1, 1) := by decide +kernel
theorem dX8_flees_5 : decode cX8_flees 5 = .ok (.iconst 1, 1) := by decide +kernel
theorem dX8_flees_6 : decode cX8_flees 6 = .ok (.invokestatic 38, 3) := by decide +kernel
theorem dX8_flees_9 : decode cX8_flees 9 = .ok (.invokestatic 71, 3) := by decide +kernel
theorem dX8_flees_12 : decode cX8_flees 12 = .ok (.istore_n 2, 1) := by decide +kernel
theorem dX8_flees_13 : decode cX8_flees 13 = .ok (.iload_n 2, 1) := by decide +kernel
theorem dX8_flees_14 : decode cX8_flees 14 = .ok (.ifCond .le 24, 3) := by decide +kernel
theorem dX8_flees_17 : decode cX8_flees 17 = .ok (.aload_n 0, 1) := by decide +kernel
theorem dX8_flees_18 : decode cX8_flees 18 = .ok (.iload_n 1, 1) := by decide +kernel
theorem dX8_flees_19 : decode cX8_flees 19 = .ok (.iconst 1, 1) := by decide +kernel
theorem dX8_flees_20 : decode cX8_flees 20 = .ok (.iconst 0, 1) := by decide +kernel
theorem dX8_flees_21 : decode cX8_flees 21 = .ok (.invokestatic 74, 3) := by decide +kernel
theorem dX8_flees_24 : decode cX8_flees 24 = .ok (.aload_n 0, 1) := by decide +kernel
theorem dX8_flees_25 : decode cX8_flees 25 = .ok (.bipush 14, 2) := by decide +kernel
theorem dX8_flees_27 : decode cX8_flees 27 = .ok (.dup2, 1) := by decide +kernel
theorem dX8_flees_28 : decode cX8_flees 28 = .ok (.iaload, 1) := by decide +kernel
theorem dX8_flees_29 : decode cX8_flees 29 = .ok (.iconst 1, 1) := by decide +kernel
theorem dX8_flees_30 : decode cX8_flees 30 = .ok (.iadd, 1) := by decide +kernel
theorem dX8_flees_31 : decode cX8_flees 31 = .ok (.iastore, 1) := by decide +kernel
theorem dX8_flees_32 : decode cX8_flees 32 = .ok (.iinc 2 (-1), 3) := by decide +kernel
theorem dX8_flees_35 : decode cX8_flees 35 = .ok (.goto (-22), 3) := by decide +kernel
theorem dX8_flees_38 : decode cX8_flees 38 = .ok (.return_, 1) := by decide +kernel
theorem dX8_passes_0 : decode cX8_passes 0 = .ok (.aload_n 0, 1) := by decide +kernel
theorem dX8_passes_1 : decode cX8_passes 1 = .ok (.iload_n 1, 1) := by decide +kernel
theorem dX8_passes_2 : decode cX8_passes 2 = .ok (.iconst 2, 1) := by decide +kernel
theorem dX8_passes_3 : decode cX8_passes 3 = .ok (.invokestatic 34, 3) := by decide +kernel
theorem dX8_passes_6 : decode cX8_passes 6 = .ok (.iaload, 1) := by decide +kernel
theorem dX8_passes_7 : decode cX8_passes 7 = .ok (.iconst 1, 1) := by decide +kernel
theorem dX8_passes_8 : decode cX8_passes 8 = .ok (.isub, 1) := by decide +kernel
theorem dX8_passes_9 : decode cX8_passes 9 = .ok (.istore_n 2, 1) := by decide +kernel
theorem dX8_passes_10 : decode cX8_passes 10 = .ok (.aload_n 0, 1) := by decide +kernel
theorem dX8_passes_11 : decode cX8_passes 11 = .ok (.iload_n 1, 1) := by decide +kernel
theorem dX8_passes_12 : decode cX8_passes 12 = .ok (.iconst 3, 1) := by decide +kernel
theorem dX8_passes_13 : decode cX8_passes 13 = .ok (.invokestatic 34, 3) := by decide +kernel
theorem dX8_passes_16 : decode cX8_passes 16 = .ok (.iaload, 1) := by decide +kernel
theorem dX8_passes_17 : decode cX8_passes 17 = .ok (.iconst 1, 1) := by decide +kernel
theorem dX8_passes_18 : decode cX8_passes 18 = .ok (.if_icmp .ne 21, 3) := by decide +kernel
theorem dX8_passes_21 : decode cX8_passes 21 = .ok (.aload_n 0, 1) := by decide +kernel
theorem dX8_passes_22 : decode cX8_passes 22 = .ok (.iload_n 1, 1) := by decide +kernel
theorem dX8_passes_23 : decode cX8_passes 23 = .ok (.iload_n 2, 1) := by decide +kernel
theorem dX8_passes_24 : decode cX8_passes 24 = .ok (.iconst 1, 1) := by decide +kernel
theorem dX8_passes_25 : decode cX8_passes 25 = .ok (.invokestatic 74, 3) := by decide +kernel
theorem dX8_passes_28 : decode cX8_passes 28 = .ok (.aload_n 0, 1) := by decide +kernel
theorem dX8_passes_29 : decode cX8_passes 29 = .ok (.iload_n 1, 1) := by decide +kernel
theorem dX8_passes_30 : decode cX8_passes 30 = .ok (.iconst 3, 1) := by decide +kernel
theorem dX8_passes_31 : decode cX8_passes 31 = .ok (.invokestatic 34, 3) := by decide +kernel
theorem dX8_passes_34 : decode cX8_passes 34 = .ok (.iconst 0, 1) := by decide +kernel
theorem dX8_passes_35 : decode cX8_passes 35 = .ok (.iastore, 1) := by decide +kernel
theorem dX8_passes_36 : decode cX8_passes 36 = .ok (.goto 49, 3) := by decide +kernel
theorem dX8_passes_39 : decode cX8_passes 39 = .ok (.aload_n 0, 1) := by decide +kernel
theorem dX8_passes_40 : decode cX8_passes 40 = .ok (.iload_n 1, 1) := by decide +kernel
theorem dX8_passes_41 : decode cX8_passes 41 = .ok (.iload_n 2, 1) := by decide +kernel
theorem dX8_passes_42 : decode cX8_passes 42 = .ok (.invokestatic 38, 3) := by decide +kernel
theorem dX8_passes_45 : decode cX8_passes 45 = .ok (.ifCond .le 40, 3) := by decide +kernel
theorem dX8_passes_48 : decode cX8_passes 48 = .ok (.aload_n 0, 1) := by decide +kernel
theorem dX8_passes_49 : decode cX8_passes 49 = .ok (.iload_n 1, 1) := by decide +kernel
theorem dX8_passes_50 : decode cX8_passes 50 = .ok (.iload_n 2, 1) := by decide +kernel
theorem dX8_passes_51 : decode cX8_passes 51 = .ok (.iconst 0, 1) := by decide +kernel
theorem dX8_passes_52 : decode cX8_passes 52 = .ok (.invokestatic 42, 3) := by decide +kernel
theorem dX8_passes_55 : decode cX8_passes 55 = .ok (.iaload, 1) := by decide +kernel
theorem dX8_passes_56 : decode cX8_passes 56 = .ok (.ifCond .ne 29, 3) := by decide +kernel
theorem dX8_passes_59 : decode cX8_passes 59 = .ok (.aload_n 0, 1) := by decide +kernel
theorem dX8_passes_60 : decode cX8_passes 60 = .ok (.iload_n 1, 1) := by decide +kernel
theorem dX8_passes_61 : decode cX8_passes 61 = .ok (.iload_n 2, 1) := by decide +kernel
theorem dX8_passes_62 : decode cX8_passes 62 = .ok (.iconst 1, 1) := by decide +kernel
theorem dX8_passes_63 : decode cX8_passes 63 = .ok (.invokestatic 74, 3) := by decide +kernel
theorem dX8_passes_66 : decode cX8_passes 66 = .ok (.aload_n 0, 1) := by decide +kernel
theorem dX8_passes_67 : decode cX8_passes 67 = .ok (.bipush 11, 2) := by decide +kernel
theorem dX8_passes_69 : decode cX8_passes 69 = .ok (.dup2, 1) := by decide +kernel
theorem dX8_passes_70 : decode cX8_passes 70 = .ok (.iaload, 1) := by decide +kernel
theorem dX8_passes_71 : decode cX8_passes 71 = .ok (.iconst 1, 1) := by decide +kernel
theorem dX8_passes_72 : decode cX8_passes 72 = .ok (.iadd, 1) := by decide +kernel
theorem dX8_passes_73 : decode cX8_passes 73 = .ok (.iastore, 1) := by decide +kernel
theorem dX8_passes_74 : decode cX8_passes 74 = .ok (.aload_n 0, 1) := by decide +kernel
theorem dX8_passes_75 : decode cX8_passes 75 = .ok (.iload_n 1, 1) := by decide +kernel
theorem dX8_passes_76 : decode cX8_passes 76 = .ok (.iconst 4, 1) := by decide +kernel
theorem dX8_passes_77 : decode cX8_passes 77 = .ok (.invokestatic 34, 3) := by decide +kernel
theorem dX8_passes_80 : decode cX8_passes 80 = .ok (.dup2, 1) := by decide +kernel
theorem dX8_passes_81 : decode cX8_passes 81 = .ok (.iaload, 1) := by decide +kernel
theorem dX8_passes_82 : decode cX8_passes 82 = .ok (.iconst 1, 1) := by decide +kernel
theorem dX8_passes_83 : decode cX8_passes 83 = .ok (.iadd, 1) := by decide +kernel
theorem dX8_passes_84 : decode cX8_passes 84 = .ok (.iastore, 1) := by decide +kernel
theorem dX8_passes_85 : decode cX8_passes 85 = .ok (.aload_n 0, 1) := by decide +kernel
theorem dX8_passes_86 : decode cX8_passes 86 = .ok (.iload_n 1, 1) := by decide +kernel
theorem dX8_passes_87 : decode cX8_passes 87 = .ok (.iconst 1, 1) := by decide +kernel
theorem dX8_passes_88 : decode cX8_passes 88 = .ok (.invokestatic 34, 3) := by decide +kernel
theorem dX8_passes_91 : decode cX8_passes 91 = .ok (.dup2, 1) := by decide +kernel
theorem dX8_passes_92 : decode cX8_passes 92 = .ok (.iaload, 1) := by decide +kernel
theorem dX8_passes_93 : decode cX8_passes 93 = .ok (.iconst 1, 1) := by decide +kernel
theorem dX8_passes_94 : decode cX8_passes 94 = .ok (.isub, 1) := by decide +kernel
theorem dX8_passes_95 : decode cX8_passes 95 = .ok (.iastore, 1) := by decide +kernel
theorem dX8_passes_96 : decode cX8_passes 96 = .ok (.aload_n 0, 1) := by decide +kernel
theorem dX8_passes_97 : decode cX8_passes 97 = .ok (.iload_n 1, 1) := by decide +kernel
theorem dX8_passes_98 : decode cX8_passes 98 = .ok (.iconst 1, 1) := by decide +kernel
theorem dX8_passes_99 : decode cX8_passes 99 = .ok (.invokestatic 34, 3) := by decide +kernel
theorem dX8_passes_102 : decode cX8_passes 102 = .ok (.iaload, 1) := by decide +kernel
theorem dX8_passes_103 : decode cX8_passes 103 = .ok (.ifCond .ne 11, 3) := by decide +kernel
theorem dX8_passes_106 : decode cX8_passes 106 = .ok (.aload_n 0, 1) := by decide +kernel
theorem dX8_passes_107 : decode cX8_passes 107 = .ok (.iload_n 1, 1) := by decide +kernel
theorem dX8_passes_108 : decode cX8_passes 108 = .ok (.iconst 2, 1) := by decide +kernel
theorem dX8_passes_109 : decode cX8_passes 109 = .ok (.invokestatic 34, 3) := by decide +kernel
theorem dX8_passes_112 : decode cX8_passes 112 = .ok (.iconst 0, 1) := by decide +kernel
theorem dX8_passes_113 : decode cX8_passes 113 = .ok (.iastore, 1) := by decide +kernel
theorem dX8_passes_114 : decode cX8_passes 114 = .ok (.return_, 1) := by decide +kernel
theorem dX8_opens_0 : decode cX8_opens 0 = .ok (.aload_n 0, 1) := by decide +kernel
theorem dX8_opens_1 : decode cX8_opens 1 = .ok (.iload_n 1, 1) := by decide +kernel
theorem dX8_opens_2 : decode cX8_opens 2 = .ok (.invokestatic 78, 3) := by decide +kernel
theorem dX8_opens_5 : decode cX8_opens 5 = .ok (.istore_n 2, 1) := by decide +kernel
theorem dX8_opens_6 : decode cX8_opens 6 = .ok (.iconst 0, 1) := by decide +kernel
theorem dX8_opens_7 : decode cX8_opens 7 = .ok (.istore_n 3, 1) := by decide +kernel
theorem dX8_opens_8 : decode cX8_opens 8 = .ok (.iload_n 3, 1) := by decide +kernel
theorem dX8_opens_9 : decode cX8_opens 9 = .ok (.aload_n 0, 1) := by decide +kernel
theorem dX8_opens_10 : decode cX8_opens 10 = .ok (.iload_n 1, 1) := by decide +kernel
theorem dX8_opens_11 : decode cX8_opens 11 = .ok (.iload_n 2, 1) := by decide +kernel
theorem dX8_opens_12 : decode cX8_opens 12 = .ok (.invokestatic 38, 3) := by decide +kernel
theorem dX8_opens_15 : decode cX8_opens 15 = .ok (.if_icmp .ge 20, 3) := by decide +kernel
theorem dX8_opens_18 : decode cX8_opens 18 = .ok (.aload_n 0, 1) := by decide +kernel
theorem dX8_opens_19 : decode cX8_opens 19 = .ok (.iload_n 1, 1) := by decide +kernel
theorem dX8_opens_20 : decode cX8_opens 20 = .ok (.iload_n 2, 1) := by decide +kernel
theorem dX8_opens_21 : decode cX8_opens 21 = .ok (.iload_n 3, 1) := by decide +kernel
theorem dX8_opens_22 : decode cX8_opens 22 = .ok (.invokestatic 42, 3) := by decide +kernel
theorem dX8_opens_25 : decode cX8_opens 25 = .ok (.iaload, 1) := by decide +kernel
theorem dX8_opens_26 : decode cX8_opens 26 = .ok (.ifCond .ne 9, 3) := by decide +kernel
theorem dX8_opens_29 : decode cX8_opens 29 = .ok (.iinc 3 1, 3) := by decide +kernel
theorem dX8_opens_32 : decode cX8_opens 32 = .ok (.goto (-24), 3) := by decide +kernel
theorem dX8_opens_35 : decode cX8_opens 35 = .ok (.iload_n 3, 1) := by decide +kernel
theorem dX8_opens_36 : decode cX8_opens 36 = .ok (.aload_n 0, 1) := by decide +kernel
theorem dX8_opens_37 : decode cX8_opens 37 = .ok (.iload_n 1, 1) := by decide +kernel
theorem dX8_opens_38 : decode cX8_opens 38 = .ok (.iload_n 2, 1) := by decide +kernel
theorem dX8_opens_39 : decode cX8_opens 39 = .ok (.invokestatic 38, 3) := by decide +kernel
theorem dX8_opens_42 : decode cX8_opens 42 = .ok (.if_icmp .ne 4, 3) := by decide +kernel
theorem dX8_opens_45 : decode cX8_opens 45 = .ok (.return_, 1) := by decide +kernel
theorem dX8_opens_46 : decode cX8_opens 46 = .ok (.aload_n 0, 1) := by decide +kernel
theorem dX8_opens_47 : decode cX8_opens 47 = .ok (.iload_n 1, 1) := by decide +kernel
theorem dX8_opens_48 : decode cX8_opens 48 = .ok (.iload_n 2, 1) := by decide +kernel
theorem dX8_opens_49 : decode cX8_opens 49 = .ok (.iload_n 3, 1) := by decide +kernel
theorem dX8_opens_50 : decode cX8_opens 50 = .ok (.invokestatic 68, 3) := by decide +kernel
theorem dX8_opens_53 : decode cX8_opens 53 = .ok (.istore 4, 2) := by decide +kernel
theorem dX8_opens_55 : decode cX8_opens 55 = .ok (.aload_n 0, 1) := by decide +kernel
theorem dX8_opens_56 : decode cX8_opens 56 = .ok (.iload 4, 2) := by decide +kernel
theorem dX8_opens_58 : decode cX8_opens 58 = .ok (.iconst 1, 1) := by decide +kernel
theorem dX8_opens_59 : decode cX8_opens 59 = .ok (.isub, 1) := by decide +kernel
theorem dX8_opens_60 : decode cX8_opens 60 = .ok (.iload_n 2, 1) := by decide +kernel
theorem dX8_opens_61 : decode cX8_opens 61 = .ok (.invokestatic 81, 3) := by decide +kernel
theorem dX8_opens_64 : decode cX8_opens 64 = .ok (.ifCond .le 27, 3) := by decide +kernel
theorem dX8_opens_67 : decode cX8_opens 67 = .ok (.aload_n 0, 1) := by decide +kernel
theorem dX8_opens_68 : decode cX8_opens 68 = .ok (.bipush 12, 2) := by decide +kernel
theorem dX8_opens_70 : decode cX8_opens 70 = .ok (.dup2, 1) := by decide +kernel
theorem dX8_opens_71 : decode cX8_opens 71 = .ok (.iaload, 1) := by decide +kernel
theorem dX8_opens_72 : decode cX8_opens 72 = .ok (.iconst 1, 1) := by decide +kernel
theorem dX8_opens_73 : decode cX8_opens 73 = .ok (.iadd, 1) := by decide +kernel
theorem dX8_opens_74 : decode cX8_opens 74 = .ok (.iastore, 1) := by decide +kernel
theorem dX8_opens_75 : decode cX8_opens 75 = .ok (.aload_n 0, 1) := by decide +kernel
theorem dX8_opens_76 : decode cX8_opens 76 = .ok (.bipush 15, 2) := by decide +kernel
theorem dX8_opens_78 : decode cX8_opens 78 = .ok (.dup2, 1) := by decide +kernel
theorem dX8_opens_79 : decode cX8_opens 79 = .ok (.iaload, 1) := by decide +kernel
theorem dX8_opens_80 : decode cX8_opens 80 = .ok (.iload_n 2, 1) := by decide +kernel
theorem dX8_opens_81 : decode cX8_opens 81 = .ok (.iadd, 1) := by decide +kernel
theorem dX8_opens_82 : decode cX8_opens 82 = .ok (.iastore, 1) := by decide +kernel
theorem dX8_opens_83 : decode cX8_opens 83 = .ok (.aload_n 0, 1) := by decide +kernel
theorem dX8_opens_84 : decode cX8_opens 84 = .ok (.iconst 3, 1) := by decide +kernel
theorem dX8_opens_85 : decode cX8_opens 85 = .ok (.dup2, 1) := by decide +kernel
theorem dX8_opens_86 : decode cX8_opens 86 = .ok (.iaload, 1) := by decide +kernel
theorem dX8_opens_87 : decode cX8_opens 87 = .ok (.iload_n 2, 1) := by decide +kernel
theorem dX8_opens_88 : decode cX8_opens 88 = .ok (.isub, 1) := by decide +kernel
theorem dX8_opens_89 : decode cX8_opens 89 = .ok (.iastore, 1) := by decide +kernel
theorem dX8_opens_90 : decode cX8_opens 90 = .ok (.return_, 1) := by decide +kernel
theorem dX8_opens_91 : decode cX8_opens 91 = .ok (.aload_n 0, 1) := by decide +kernel
theorem dX8_opens_92 : decode cX8_opens 92 = .ok (.iload_n 1, 1) := by decide +kernel
theorem dX8_opens_93 : decode cX8_opens 93 = .ok (.iload_n 2, 1) := by decide +kernel
theorem dX8_opens_94 : decode cX8_opens 94 = .ok (.invokestatic 38, 3) := by decide +kernel
theorem dX8_opens_97 : decode cX8_opens 97 = .ok (.istore 5, 2) := by decide +kernel
theorem dX8_opens_99 : decode cX8_opens 99 = .ok (.iload 5, 2) := by decide +kernel
theorem dX8_opens_101 : decode cX8_opens 101 = .ok (.ifCond .le 29, 3) := by decide +kernel
theorem dX8_opens_104 : decode cX8_opens 104 = .ok (.aload_n 0, 1) := by decide +kernel
theorem dX8_opens_105 : decode cX8_opens 105 = .ok (.iload_n 1, 1) := by decide +kernel
theorem dX8_opens_106 : decode cX8_opens 106 = .ok (.iload_n 2, 1) := by decide +kernel
theorem dX8_opens_107 : decode cX8_opens 107 = .ok (.iload 5, 2) := by decide +kernel
theorem dX8_opens_109 : decode cX8_opens 109 = .ok (.invokestatic 42, 3) := by decide +kernel
theorem dX8_opens_112 : decode cX8_opens 112 = .ok (.aload_n 0, 1) := by decide +kernel
theorem dX8_opens_113 : decode cX8_opens 113 = .ok (.iload_n 1, 1) := by decide +kernel
theorem dX8_opens_114 : decode cX8_opens 114 = .ok (.iload_n 2, 1) := by decide +kernel
theorem dX8_opens_115 : decode cX8_opens 115 = .ok (.iload 5, 2) := by decide +kernel
theorem dX8_opens_117 : decode cX8_opens 117 = .ok (.iconst 1, 1) := by decide +kernel
theorem dX8_opens_118 : decode cX8_opens 118 = .ok (.isub, 1) := by decide +kernel
theorem dX8_opens_119 : decode cX8_opens 119 = .ok (.invokestatic 42, 3) := by decide +kernel
theorem dX8_opens_122 : decode cX8_opens 122 = .ok (.iaload, 1) := by decide +kernel
theorem dX8_opens_123 : decode cX8_opens 123 = .ok (.iastore, 1) := by decide +kernel
theorem dX8_opens_124 : decode cX8_opens 124 = .ok (.iinc 5 (-1), 3) := by decide +kernel
theorem dX8_opens_127 : decode cX8_opens 127 = .ok (.goto (-28), 3) := by decide +kernel
theorem dX8_opens_130 : decode cX8_opens 130 = .ok (.aload_n 0, 1) := by decide +kernel
theorem dX8_opens_131 : decode cX8_opens 131 = .ok (.iload_n 1, 1) := by decide +kernel
theorem dX8_opens_132 : decode cX8_opens 132 = .ok (.iload_n 2, 1) := by decide +kernel
theorem dX8_opens_133 : decode cX8_opens 133 = .ok (.iconst 0, 1) := by decide +kernel
theorem dX8_opens_134 : decode cX8_opens 134 = .ok (.invokestatic 42, 3) := by decide +kernel
theorem dX8_opens_137 : decode cX8_opens 137 = .ok (.iload 4, 2) := by decide +kernel
theorem dX8_opens_139 : decode cX8_opens 139 = .ok (.iastore, 1) := by decide +kernel
theorem dX8_opens_140 : decode cX8_opens 140 = .ok (.aload_n 0, 1) := by decide +kernel
theorem dX8_opens_141 : decode cX8_opens 141 = .ok (.iload_n 1, 1) := by decide +kernel
theorem dX8_opens_142 : decode cX8_opens 142 = .ok (.bipush 7, 2) := by decide +kernel
theorem dX8_opens_144 : decode cX8_opens 144 = .ok (.iload_n 2, 1) := by decide +kernel
theorem dX8_opens_145 : decode cX8_opens 145 = .ok (.iadd, 1) := by decide +kernel
theorem dX8_opens_146 : decode cX8_opens 146 = .ok (.invokestatic 34, 3) := by decide +kernel
theorem dX8_opens_149 : decode cX8_opens 149 = .ok (.dup2, 1) := by decide +kernel
theorem dX8_opens_150 : decode cX8_opens 150 = .ok (.iaload, 1) := by decide +kernel
theorem dX8_opens_151 : decode cX8_opens 151 = .ok (.iconst 1, 1) := by decide +kernel
theorem dX8_opens_152 : decode cX8_opens 152 = .ok (.iadd, 1) := by decide +kernel
theorem dX8_opens_153 : decode cX8_opens 153 = .ok (.iastore, 1) := by decide +kernel
theorem dX8_opens_154 : decode cX8_opens 154 = .ok (.aload_n 0, 1) := by decide +kernel
theorem dX8_opens_155 : decode cX8_opens 155 = .ok (.iload_n 1, 1) := by decide +kernel
theorem dX8_opens_156 : decode cX8_opens 156 = .ok (.iconst 1, 1) := by decide +kernel
theorem dX8_opens_157 : decode cX8_opens 157 = .ok (.invokestatic 34, 3) := by decide +kernel
theorem dX8_opens_160 : decode cX8_opens 160 = .ok (.aload_n 0, 1) := by decide +kernel
theorem dX8_opens_161 : decode cX8_opens 161 = .ok (.iconst 0, 1) := by decide +kernel
theorem dX8_opens_162 : decode cX8_opens 162 = .ok (.iaload, 1) := by decide +kernel
theorem dX8_opens_163 : decode cX8_opens 163 = .ok (.iastore, 1) := by decide +kernel
theorem dX8_opens_164 : decode cX8_opens 164 = .ok (.aload_n 0, 1) := by decide +kernel
theorem dX8_opens_165 : decode cX8_opens 165 = .ok (.iload_n 1, 1) := by decide +kernel
theorem dX8_opens_166 : decode cX8_opens 166 = .ok (.iconst 2, 1) := by decide +kernel
theorem dX8_opens_167 : decode cX8_opens 167 = .ok (.invokestatic 34, 3) := by decide +kernel
theorem dX8_opens_170 : decode cX8_opens 170 = .ok (.iload_n 2, 1) := by decide +kernel
theorem dX8_opens_171 : decode cX8_opens 171 = .ok (.iconst 1, 1) := by decide +kernel
theorem dX8_opens_172 : decode cX8_opens 172 = .ok (.iadd, 1) := by decide +kernel
theorem dX8_opens_173 : decode cX8_opens 173 = .ok (.iastore, 1) := by decide +kernel
theorem dX8_opens_174 : decode cX8_opens 174 = .ok (.aload_n 0, 1) := by decide +kernel
theorem dX8_opens_175 : decode cX8_opens 175 = .ok (.iload_n 1, 1) := by decide +kernel
theorem dX8_opens_176 : decode cX8_opens 176 = .ok (.iconst 3, 1) := by decide +kernel
theorem dX8_opens_177 : decode cX8_opens 177 = .ok (.invokestatic 34, 3) := by decide +kernel
theorem dX8_opens_180 : decode cX8_opens 180 = .ok (.iconst 1, 1) := by decide +kernel
theorem dX8_opens_181 : decode cX8_opens 181 = .ok (.iastore, 1) := by decide +kernel
theorem dX8_opens_182 : decode cX8_opens 182 = .ok (.aload_n 0, 1) := by decide +kernel
theorem dX8_opens_183 : decode cX8_opens 183 = .ok (.iload_n 1, 1) := by decide +kernel
theorem dX8_opens_184 : decode cX8_opens 184 = .ok (.iconst 5, 1) := by decide +kernel
theorem dX8_opens_185 : decode cX8_opens 185 = .ok (.invokestatic 34, 3) := by decide +kernel
theorem dX8_opens_188 : decode cX8_opens 188 = .ok (.dup2, 1) := by decide +kernel
theorem dX8_opens_189 : decode cX8_opens 189 = .ok (.iaload, 1) := by decide +kernel
theorem dX8_opens_190 : decode cX8_opens 190 = .ok (.iconst 1, 1) := by decide +kernel
theorem dX8_opens_191 : decode cX8_opens 191 = .ok (.iadd, 1) := by decide +kernel
theorem dX8_opens_192 : decode cX8_opens 192 = .ok (.iastore, 1) := by decide +kernel
theorem dX8_opens_193 : decode cX8_opens 193 = .ok (.aload_n 0, 1) := by decide +kernel
theorem dX8_opens_194 : decode cX8_opens 194 = .ok (.iload_n 1, 1) := by decide +kernel
theorem dX8_opens_195 : decode cX8_opens 195 = .ok (.bipush 6, 2) := by decide +kernel
theorem dX8_opens_197 : decode cX8_opens 197 = .ok (.invokestatic 34, 3) := by decide +kernel
theorem dX8_opens_200 : decode cX8_opens 200 = .ok (.iload_n 2, 1) := by decide +kernel
theorem dX8_opens_201 : decode cX8_opens 201 = .ok (.iconst 1, 1) := by decide +kernel
theorem dX8_opens_202 : decode cX8_opens 202 = .ok (.iadd, 1) := by decide +kernel
theorem dX8_opens_203 : decode cX8_opens 203 = .ok (.iastore, 1) := by decide +kernel
theorem dX8_opens_204 : decode cX8_opens 204 = .ok (.return_, 1) := by decide +kernel
theorem dX8_lives_0 : decode cX8_lives 0 = .ok (.iconst 0, 1) := by decide +kernel
theorem dX8_lives_1 : decode cX8_lives 1 = .ok (.istore_n 2, 1) := by decide +kernel
theorem dX8_lives_2 : decode cX8_lives 2 = .ok (.iload_n 2, 1) := by decide +kernel
theorem dX8_lives_3 : decode cX8_lives 3 = .ok (.iload_n 1, 1) := by decide +kernel
theorem dX8_lives_4 : decode cX8_lives 4 = .ok (.if_icmp .ge 69, 3) := by decide +kernel
theorem dX8_lives_7 : decode cX8_lives 7 = .ok (.iconst 0, 1) := by decide +kernel
theorem dX8_lives_8 : decode cX8_lives 8 = .ok (.istore_n 3, 1) := by decide +kernel
theorem dX8_lives_9 : decode cX8_lives 9 = .ok (.iload_n 3, 1) := by decide +kernel
theorem dX8_lives_10 : decode cX8_lives 10 = .ok (.aload_n 0, 1) := by decide +kernel
theorem dX8_lives_11 : decode cX8_lives 11 = .ok (.iconst 4, 1) := by decide +kernel
theorem dX8_lives_12 : decode cX8_lives 12 = .ok (.iaload, 1) := by decide +kernel
theorem dX8_lives_13 : decode cX8_lives 13 = .ok (.if_icmp .ge 47, 3) := by decide +kernel
theorem dX8_lives_16 : decode cX8_lives 16 = .ok (.aload_n 0, 1) := by decide +kernel
theorem dX8_lives_17 : decode cX8_lives 17 = .ok (.invokestatic 84, 3) := by decide +kernel
theorem dX8_lives_20 : decode cX8_lives 20 = .ok (.ifCond .eq 11, 3) := by decide +kernel
theorem dX8_lives_23 : decode cX8_lives 23 = .ok (.aload_n 0, 1) := by decide +kernel
theorem dX8_lives_24 : decode cX8_lives 24 = .ok (.iload_n 3, 1) := by decide +kernel
theorem dX8_lives_25 : decode cX8_lives 25 = .ok (.invokestatic 88, 3) := by decide +kernel
theorem dX8_lives_28 : decode cX8_lives 28 = .ok (.goto 26, 3) := by decide +kernel
theorem dX8_lives_31 : decode cX8_lives 31 = .ok (.aload_n 0, 1) := by decide +kernel
theorem dX8_lives_32 : decode cX8_lives 32 = .ok (.iload_n 3, 1) := by decide +kernel
theorem dX8_lives_33 : decode cX8_lives 33 = .ok (.iconst 1, 1) := by decide +kernel
theorem dX8_lives_34 : decode cX8_lives 34 = .ok (.invokestatic 34, 3) := by decide +kernel
theorem dX8_lives_37 : decode cX8_lives 37 = .ok (.iaload, 1) := by decide +kernel
theorem dX8_lives_38 : decode cX8_lives 38 = .ok (.ifCond .le 11, 3) := by decide +kernel
theorem dX8_lives_41 : decode cX8_lives 41 = .ok (.aload_n 0, 1) := by decide +kernel
theorem dX8_lives_42 : decode cX8_lives 42 = .ok (.iload_n 3, 1) := by decide +kernel
theorem dX8_lives_43 : decode cX8_lives 43 = .ok (.invokestatic 92, 3) := by decide +kernel
theorem dX8_lives_46 : decode cX8_lives 46 = .ok (.goto 8, 3) := by decide +kernel
theorem dX8_lives_49 : decode cX8_lives 49 = .ok (.aload_n 0, 1) := by decide +kernel
theorem dX8_lives_50 : decode cX8_lives 50 = .ok (.iload_n 3, 1) := by decide +kernel
theorem dX8_lives_51 : decode cX8_lives 51 = .ok (.invokestatic 95, 3) := by decide +kernel
theorem dX8_lives_54 : decode cX8_lives 54 = .ok (.iinc 3 1, 3) := by decide +kernel
theorem dX8_lives_57 : decode cX8_lives 57 = .ok (.goto (-48), 3) := by decide +kernel
theorem dX8_lives_60 : decode cX8_lives 60 = .ok (.aload_n 0, 1) := by decide +kernel
theorem dX8_lives_61 : decode cX8_lives 61 = .ok (.iconst 2, 1) := by decide +kernel
theorem dX8_lives_62 : decode cX8_lives 62 = .ok (.dup2, 1) := by decide +kernel
theorem dX8_lives_63 : decode cX8_lives 63 = .ok (.iaload, 1) := by decide +kernel
theorem dX8_lives_64 : decode cX8_lives 64 = .ok (.iconst 1, 1) := by decide +kernel
theorem dX8_lives_65 : decode cX8_lives 65 = .ok (.iadd, 1) := by decide +kernel
theorem dX8_lives_66 : decode cX8_lives 66 = .ok (.iastore, 1) := by decide +kernel
theorem dX8_lives_67 : decode cX8_lives 67 = .ok (.iinc 2 1, 3) := by decide +kernel
theorem dX8_lives_70 : decode cX8_lives 70 = .ok (.goto (-68), 3) := by decide +kernel
theorem dX8_lives_73 : decode cX8_lives 73 = .ok (.return_, 1) := by decide +kernel
theorem dX8_turns_0 : decode cX8_turns 0 = .ok (.aload_n 0, 1) := by decide +kernel
theorem dX8_turns_1 : decode cX8_turns 1 = .ok (.invokestatic 84, 3) := by decide +kernel
theorem dX8_turns_4 : decode cX8_turns 4 = .ok (.istore_n 2, 1) := by decide +kernel
theorem dX8_turns_5 : decode cX8_turns 5 = .ok (.aload_n 0, 1) := by decide +kernel
theorem dX8_turns_6 : decode cX8_turns 6 = .ok (.bipush 6, 2) := by decide +kernel
theorem dX8_turns_8 : decode cX8_turns 8 = .ok (.iload_n 1, 1) := by decide +kernel
theorem dX8_turns_9 : decode cX8_turns 9 = .ok (.iadd, 1) := by decide +kernel
theorem dX8_turns_10 : decode cX8_turns 10 = .ok (.iconst 1, 1) := by decide +kernel
theorem dX8_turns_11 : decode cX8_turns 11 = .ok (.aload_n 0, 1) := by decide +kernel
theorem dX8_turns_12 : decode cX8_turns 12 = .ok (.bipush 6, 2) := by decide +kernel
theorem dX8_turns_14 : decode cX8_turns 14 = .ok (.iload_n 1, 1) := by decide +kernel
theorem dX8_turns_15 : decode cX8_turns 15 = .ok (.iadd, 1) := by decide +kernel
theorem dX8_turns_16 : decode cX8_turns 16 = .ok (.iaload, 1) := by decide +kernel
theorem dX8_turns_17 : decode cX8_turns 17 = .ok (.isub, 1) := by decide +kernel
theorem dX8_turns_18 : decode cX8_turns 18 = .ok (.iastore, 1) := by decide +kernel
theorem dX8_turns_19 : decode cX8_turns 19 = .ok (.iload_n 2, 1) := by decide +kernel
theorem dX8_turns_20 : decode cX8_turns 20 = .ok (.ifCond .ne 49, 3) := by decide +kernel
theorem dX8_turns_23 : decode cX8_turns 23 = .ok (.aload_n 0, 1) := by decide +kernel
theorem dX8_turns_24 : decode cX8_turns 24 = .ok (.invokestatic 84, 3) := by decide +kernel
theorem dX8_turns_27 : decode cX8_turns 27 = .ok (.ifCond .eq 42, 3) := by decide +kernel
theorem dX8_turns_30 : decode cX8_turns 30 = .ok (.iconst 0, 1) := by decide +kernel
theorem dX8_turns_31 : decode cX8_turns 31 = .ok (.istore_n 3, 1) := by decide +kernel
theorem dX8_turns_32 : decode cX8_turns 32 = .ok (.iload_n 3, 1) := by decide +kernel
theorem dX8_turns_33 : decode cX8_turns 33 = .ok (.aload_n 0, 1) := by decide +kernel
theorem dX8_turns_34 : decode cX8_turns 34 = .ok (.iconst 4, 1) := by decide +kernel
theorem dX8_turns_35 : decode cX8_turns 35 = .ok (.iaload, 1) := by decide +kernel
theorem dX8_turns_36 : decode cX8_turns 36 = .ok (.if_icmp .ge 33, 3) := by decide +kernel
theorem dX8_turns_39 : decode cX8_turns 39 = .ok (.iconst 1, 1) := by decide +kernel
theorem dX8_turns_40 : decode cX8_turns 40 = .ok (.istore 4, 2) := by decide +kernel
theorem dX8_turns_42 : decode cX8_turns 42 = .ok (.iload 4, 2) := by decide +kernel
theorem dX8_turns_44 : decode cX8_turns 44 = .ok (.iconst 3, 1) := by decide +kernel
theorem dX8_turns_45 : decode cX8_turns 45 = .ok (.if_icmp .gt 18, 3) := by decide +kernel
theorem dX8_turns_48 : decode cX8_turns 48 = .ok (.aload_n 0, 1) := by decide +kernel
theorem dX8_turns_49 : decode cX8_turns 49 = .ok (.iload_n 3, 1) := by decide +kernel
theorem dX8_turns_50 : decode cX8_turns 50 = .ok (.iload 4, 2) := by decide +kernel
theorem dX8_turns_52 : decode cX8_turns 52 = .ok (.invokestatic 34, 3) := by decide +kernel
theorem dX8_turns_55 : decode cX8_turns 55 = .ok (.iconst 0, 1) := by decide +kernel
theorem dX8_turns_56 : decode cX8_turns 56 = .ok (.iastore, 1) := by decide +kernel
theorem dX8_turns_57 : decode cX8_turns 57 = .ok (.iinc 4 1, 3) := by decide +kernel
theorem dX8_turns_60 : decode cX8_turns 60 = .ok (.goto (-18), 3) := by decide +kernel
theorem dX8_turns_63 : decode cX8_turns 63 = .ok (.iinc 3 1, 3) := by decide +kernel
theorem dX8_turns_66 : decode cX8_turns 66 = .ok (.goto (-34), 3) := by decide +kernel
theorem dX8_turns_69 : decode cX8_turns 69 = .ok (.aload_n 0, 1) := by decide +kernel
theorem dX8_turns_70 : decode cX8_turns 70 = .ok (.invokestatic 64, 3) := by decide +kernel
theorem dX8_turns_73 : decode cX8_turns 73 = .ok (.ireturn, 1) := by decide +kernel
theorem dX8_fits_0 : decode cX8_fits 0 = .ok (.aload_n 0, 1) := by decide +kernel
theorem dX8_fits_1 : decode cX8_fits 1 = .ok (.iconst 4, 1) := by decide +kernel
theorem dX8_fits_2 : decode cX8_fits 2 = .ok (.iaload, 1) := by decide +kernel
theorem dX8_fits_3 : decode cX8_fits 3 = .ok (.istore_n 2, 1) := by decide +kernel
theorem dX8_fits_4 : decode cX8_fits 4 = .ok (.iconst 0, 1) := by decide +kernel
theorem dX8_fits_5 : decode cX8_fits 5 = .ok (.istore_n 3, 1) := by decide +kernel
theorem dX8_fits_6 : decode cX8_fits 6 = .ok (.iload_n 3, 1) := by decide +kernel
theorem dX8_fits_7 : decode cX8_fits 7 = .ok (.bipush 29, 2) := by decide +kernel
theorem dX8_fits_9 : decode cX8_fits 9 = .ok (.if_icmp .ge 17, 3) := by decide +kernel
theorem dX8_fits_12 : decode cX8_fits 12 = .ok (.aload_n 0, 1) := by decide +kernel
theorem dX8_fits_13 : decode cX8_fits 13 = .ok (.iload_n 2, 1) := by decide +kernel
theorem dX8_fits_14 : decode cX8_fits 14 = .ok (.iload_n 3, 1) := by decide +kernel
theorem dX8_fits_15 : decode cX8_fits 15 = .ok (.invokestatic 34, 3) := by decide +kernel
theorem dX8_fits_18 : decode cX8_fits 18 = .ok (.iconst 0, 1) := by decide +kernel
theorem dX8_fits_19 : decode cX8_fits 19 = .ok (.iastore, 1) := by decide +kernel
theorem dX8_fits_20 : decode cX8_fits 20 = .ok (.iinc 3 1, 3) := by decide +kernel
theorem dX8_fits_23 : decode cX8_fits 23 = .ok (.goto (-17), 3) := by decide +kernel
theorem dX8_fits_26 : decode cX8_fits 26 = .ok (.aload_n 0, 1) := by decide +kernel
theorem dX8_fits_27 : decode cX8_fits 27 = .ok (.iload_n 2, 1) := by decide +kernel
theorem dX8_fits_28 : decode cX8_fits 28 = .ok (.iconst 0, 1) := by decide +kernel
theorem dX8_fits_29 : decode cX8_fits 29 = .ok (.invokestatic 34, 3) := by decide +kernel
theorem dX8_fits_32 : decode cX8_fits 32 = .ok (.iload_n 1, 1) := by decide +kernel
theorem dX8_fits_33 : decode cX8_fits 33 = .ok (.iastore, 1) := by decide +kernel
theorem dX8_fits_34 : decode cX8_fits 34 = .ok (.aload_n 0, 1) := by decide +kernel
theorem dX8_fits_35 : decode cX8_fits 35 = .ok (.iconst 4, 1) := by decide +kernel
theorem dX8_fits_36 : decode cX8_fits 36 = .ok (.dup2, 1) := by decide +kernel
theorem dX8_fits_37 : decode cX8_fits 37 = .ok (.iaload, 1) := by decide +kernel
theorem dX8_fits_38 : decode cX8_fits 38 = .ok (.iconst 1, 1) := by decide +kernel
theorem dX8_fits_39 : decode cX8_fits 39 = .ok (.iadd, 1) := by decide +kernel
theorem dX8_fits_40 : decode cX8_fits 40 = .ok (.iastore, 1) := by decide +kernel
theorem dX8_fits_41 : decode cX8_fits 41 = .ok (.return_, 1) := by decide +kernel
theorem dX8_append_0 : decode cX8_append 0 = .ok (.aload_n 0, 1) := by decide +kernel
theorem dX8_append_1 : decode cX8_append 1 = .ok (.iconst 0, 1) := by decide +kernel
theorem dX8_append_2 : decode cX8_append 2 = .ok (.putfield 31, 3) := by decide +kernel
theorem dX8_append_5 : decode cX8_append 5 = .ok (.aload_n 0, 1) := by decide +kernel
theorem dX8_append_6 : decode cX8_append 6 = .ok (.getfield 98, 3) := by decide +kernel
theorem dX8_append_9 : decode cX8_append 9 = .ok (.bipush 20, 2) := by decide +kernel
theorem dX8_append_11 : decode cX8_append 11 = .ok (.iadd, 1) := by decide +kernel
theorem dX8_append_12 : decode cX8_append 12 = .ok (.sipush 500, 3) := by decide +kernel
theorem dX8_append_15 : decode cX8_append 15 = .ok (.if_icmp .le 5, 3) := by decide +kernel
theorem dX8_append_18 : decode cX8_append 18 = .ok (.iconst (-1), 1) := by decide +kernel
theorem dX8_append_19 : decode cX8_append 19 = .ok (.ireturn, 1) := by decide +kernel
theorem dX8_append_20 : decode cX8_append 20 = .ok (.iconst 0, 1) := by decide +kernel
theorem dX8_append_21 : decode cX8_append 21 = .ok (.istore 6, 2) := by decide +kernel
theorem dX8_append_23 : decode cX8_append 23 = .ok (.iload 6, 2) := by decide +kernel
theorem dX8_append_25 : decode cX8_append 25 = .ok (.bipush 20, 2) := by decide +kernel
theorem dX8_append_27 : decode cX8_append 27 = .ok (.if_icmp .ge 93, 3) := by decide +kernel
theorem dX8_append_30 : decode cX8_append 30 = .ok (.iload 6, 2) := by decide +kernel
theorem dX8_append_32 : decode cX8_append 32 = .ok (.iconst 4, 1) := by decide +kernel
theorem dX8_append_33 : decode cX8_append 33 = .ok (.if_icmp .ge 7, 3) := by decide +kernel
theorem dX8_append_36 : decode cX8_append 36 = .ok (.iload_n 1, 1) := by decide +kernel
theorem dX8_append_37 : decode cX8_append 37 = .ok (.goto 39, 3) := by decide +kernel
theorem dX8_append_40 : decode cX8_append 40 = .ok (.iload 6, 2) := by decide +kernel
theorem dX8_append_42 : decode cX8_append 42 = .ok (.bipush 8, 2) := by decide +kernel
theorem dX8_append_44 : decode cX8_append 44 = .ok (.if_icmp .ge 7, 3) := by decide +kernel
theorem dX8_append_47 : decode cX8_append 47 = .ok (.iload_n 2, 1) := by decide +kernel
theorem dX8_append_48 : decode cX8_append 48 = .ok (.goto 28, 3) := by decide +kernel
theorem dX8_append_51 : decode cX8_append 51 = .ok (.iload 6, 2) := by decide +kernel
theorem dX8_append_53 : decode cX8_append 53 = .ok (.bipush 12, 2) := by decide +kernel
theorem dX8_append_55 : decode cX8_append 55 = .ok (.if_icmp .ge 7, 3) := by decide +kernel
theorem dX8_append_58 : decode cX8_append 58 = .ok (.iload_n 3, 1) := by decide +kernel
theorem dX8_append_59 : decode cX8_append 59 = .ok (.goto 17, 3) := by decide +kernel
theorem dX8_append_62 : decode cX8_append 62 = .ok (.iload 6, 2) := by decide +kernel
theorem dX8_append_64 : decode cX8_append 64 = .ok (.bipush 16, 2) := by decide +kernel
theorem dX8_append_66 : decode cX8_append 66 = .ok (.if_icmp .ge 8, 3) := by decide +kernel
theorem dX8_append_69 : decode cX8_append 69 = .ok (.iload 4, 2) := by decide +kernel
theorem dX8_append_71 : decode cX8_append 71 = .ok (.goto 5, 3) := by decide +kernel
theorem dX8_append_74 : decode cX8_append 74 = .ok (.iload 5, 2) := by decide +kernel
theorem dX8_append_76 : decode cX8_append 76 = .ok (.istore 7, 2) := by decide +kernel
theorem dX8_append_78 : decode cX8_append 78 = .ok (.aload_n 0, 1) := by decide +kernel
theorem dX8_append_79 : decode cX8_append 79 = .ok (.getfield 9, 3) := by decide +kernel
theorem dX8_append_82 : decode cX8_append 82 = .ok (.aload_n 0, 1) := by decide +kernel
theorem dX8_append_83 : decode cX8_append 83 = .ok (.getfield 98, 3) := by decide +kernel
theorem dX8_append_86 : decode cX8_append 86 = .ok (.iload 7, 2) := by decide +kernel
theorem dX8_append_88 : decode cX8_append 88 = .ok (.bipush 24, 2) := by decide +kernel
theorem dX8_append_90 : decode cX8_append 90 = .ok (.bipush 8, 2) := by decide +kernel
theorem dX8_append_92 : decode cX8_append 92 = .ok (.iload 6, 2) := by decide +kernel
theorem dX8_append_94 : decode cX8_append 94 = .ok (.iconst 4, 1) := by decide +kernel
theorem dX8_append_95 : decode cX8_append 95 = .ok (.irem, 1) := by decide +kernel
theorem dX8_append_96 : decode cX8_append 96 = .ok (.imul, 1) := by decide +kernel
theorem dX8_append_97 : decode cX8_append 97 = .ok (.isub, 1) := by decide +kernel
theorem dX8_append_98 : decode cX8_append 98 = .ok (.ishr, 1) := by decide +kernel
theorem dX8_append_99 : decode cX8_append 99 = .ok (.sipush 255, 3) := by decide +kernel
theorem dX8_append_102 : decode cX8_append 102 = .ok (.iand, 1) := by decide +kernel
theorem dX8_append_103 : decode cX8_append 103 = .ok (.iastore, 1) := by decide +kernel
theorem dX8_append_104 : decode cX8_append 104 = .ok (.aload_n 0, 1) := by decide +kernel
theorem dX8_append_105 : decode cX8_append 105 = .ok (.dup, 1) := by decide +kernel
theorem dX8_append_106 : decode cX8_append 106 = .ok (.getfield 98, 3) := by decide +kernel
theorem dX8_append_109 : decode cX8_append 109 = .ok (.iconst 1, 1) := by decide +kernel
theorem dX8_append_110 : decode cX8_append 110 = .ok (.iadd, 1) := by decide +kernel
theorem dX8_append_111 : decode cX8_append 111 = .ok (.putfield 98, 3) := by decide +kernel
theorem dX8_append_114 : decode cX8_append 114 = .ok (.iinc 6 1, 3) := by decide +kernel
theorem dX8_append_117 : decode cX8_append 117 = .ok (.goto (-94), 3) := by decide +kernel
theorem dX8_append_120 : decode cX8_append 120 = .ok (.aload_n 0, 1) := by decide +kernel
theorem dX8_append_121 : decode cX8_append 121 = .ok (.getfield 98, 3) := by decide +kernel
theorem dX8_append_124 : decode cX8_append 124 = .ok (.ireturn, 1) := by decide +kernel
theorem dX8_byteAt_0 : decode cX8_byteAt 0 = .ok (.iload_n 1, 1) := by decide +kernel
theorem dX8_byteAt_1 : decode cX8_byteAt 1 = .ok (.aload_n 0, 1) := by decide +kernel
theorem dX8_byteAt_2 : decode cX8_byteAt 2 = .ok (.getfield 101, 3) := by decide +kernel
theorem dX8_byteAt_5 : decode cX8_byteAt 5 = .ok (.if_icmp .ge 12, 3) := by decide +kernel
theorem dX8_byteAt_8 : decode cX8_byteAt 8 = .ok (.aload_n 0, 1) := by decide +kernel
theorem dX8_byteAt_9 : decode cX8_byteAt 9 = .ok (.getfield 9, 3) := by decide +kernel
theorem dX8_byteAt_12 : decode cX8_byteAt 12 = .ok (.iload_n 1, 1) := by decide +kernel
theorem dX8_byteAt_13 : decode cX8_byteAt 13 = .ok (.iaload, 1) := by decide +kernel
theorem dX8_byteAt_14 : decode cX8_byteAt 14 = .ok (.goto 4, 3) := by decide +kernel
theorem dX8_byteAt_17 : decode cX8_byteAt 17 = .ok (.iconst (-1), 1) := by decide +kernel
theorem dX8_byteAt_18 : decode cX8_byteAt 18 = .ok (.ireturn, 1) := by decide +kernel
theorem dX8_ahead_0 : decode cX8_ahead 0 = .ok (.aload_n 0, 1) := by decide +kernel
theorem dX8_ahead_1 : decode cX8_ahead 1 = .ok (.aload_n 0, 1) := by decide +kernel
theorem dX8_ahead_2 : decode cX8_ahead 2 = .ok (.getfield 104, 3) := by decide +kernel
theorem dX8_ahead_5 : decode cX8_ahead 5 = .ok (.invokevirtual 107, 3) := by decide +kernel
theorem dX8_ahead_8 : decode cX8_ahead 8 = .ok (.bipush 32, 2) := by decide +kernel
theorem dX8_ahead_10 : decode cX8_ahead 10 = .ok (.if_icmp .ne 16, 3) := by decide +kernel
theorem dX8_ahead_13 : decode cX8_ahead 13 = .ok (.aload_n 0, 1) := by decide +kernel
theorem dX8_ahead_14 : decode cX8_ahead 14 = .ok (.dup, 1) := by decide +kernel
theorem dX8_ahead_15 : decode cX8_ahead 15 = .ok (.getfield 104, 3) := by decide +kernel
theorem dX8_ahead_18 : decode cX8_ahead 18 = .ok (.iconst 1, 1) := by decide +kernel
theorem dX8_ahead_19 : decode cX8_ahead 19 = .ok (.iadd, 1) := by decide +kernel
theorem dX8_ahead_20 : decode cX8_ahead 20 = .ok (.putfield 104, 3) := by decide +kernel
theorem dX8_ahead_23 : decode cX8_ahead 23 = .ok (.goto (-23), 3) := by decide +kernel
theorem dX8_ahead_26 : decode cX8_ahead 26 = .ok (.aload_n 0, 1) := by decide +kernel
theorem dX8_ahead_27 : decode cX8_ahead 27 = .ok (.aload_n 0, 1) := by decide +kernel
theorem dX8_ahead_28 : decode cX8_ahead 28 = .ok (.getfield 104, 3) := by decide +kernel
theorem dX8_ahead_31 : decode cX8_ahead 31 = .ok (.invokevirtual 107, 3) := by decide +kernel
theorem dX8_ahead_34 : decode cX8_ahead 34 = .ok (.ireturn, 1) := by decide +kernel
theorem dX8_isGood_0 : decode cX8_isGood 0 = .ok (.aload_n 0, 1) := by decide +kernel
theorem dX8_isGood_1 : decode cX8_isGood 1 = .ok (.getfield 111, 3) := by decide +kernel
theorem dX8_isGood_4 : decode cX8_isGood 4 = .ok (.ifCond .ne 7, 3) := by decide +kernel
theorem dX8_isGood_7 : decode cX8_isGood 7 = .ok (.iconst 1, 1) := by decide +kernel
theorem dX8_isGood_8 : decode cX8_isGood 8 = .ok (.goto 4, 3) := by decide +kernel
theorem dX8_isGood_11 : decode cX8_isGood 11 = .ok (.iconst 0, 1) := by decide +kernel
theorem dX8_isGood_12 : decode cX8_isGood 12 = .ok (.ireturn, 1) := by decide +kernel
theorem dX8_report_0 : decode cX8_report 0 = .ok (.aload_n 0, 1) := by decide +kernel
theorem dX8_report_1 : decode cX8_report 1 = .ok (.getfield 111, 3) := by decide +kernel
theorem dX8_report_4 : decode cX8_report 4 = .ok (.ifCond .eq 4, 3) := by decide +kernel
theorem dX8_report_7 : decode cX8_report 7 = .ok (.return_, 1) := by decide +kernel
theorem dX8_report_8 : decode cX8_report 8 = .ok (.aload_n 0, 1) := by decide +kernel
theorem dX8_report_9 : decode cX8_report 9 = .ok (.iload_n 1, 1) := by decide +kernel
theorem dX8_report_10 : decode cX8_report 10 = .ok (.putfield 111, 3) := by decide +kernel
theorem dX8_report_13 : decode cX8_report 13 = .ok (.aload_n 0, 1) := by decide +kernel
theorem dX8_report_14 : decode cX8_report 14 = .ok (.iload_n 2, 1) := by decide +kernel
theorem dX8_report_15 : decode cX8_report 15 = .ok (.putfield 114, 3) := by decide +kernel
theorem dX8_report_18 : decode cX8_report 18 = .ok (.return_, 1) := by decide +kernel
theorem dX8_isDigit_0 : decode cX8_isDigit 0 = .ok (.iload_n 0, 1) := by decide +kernel
theorem dX8_isDigit_1 : decode cX8_isDigit 1 = .ok (.bipush 48, 2) := by decide +kernel
theorem dX8_isDigit_3 : decode cX8_isDigit 3 = .ok (.bipush 57, 2) := by decide +kernel
theorem dX8_isDigit_5 : decode cX8_isDigit 5 = .ok (.invokestatic 117, 3) := by decide +kernel
theorem dX8_isDigit_8 : decode cX8_isDigit 8 = .ok (.ireturn, 1) := by decide +kernel
theorem dX8_takeWord_0 : decode cX8_takeWord 0 = .ok (.aload_n 0, 1) := by decide +kernel
theorem dX8_takeWord_1 : decode cX8_takeWord 1 = .ok (.invokevirtual 121, 3) := by decide +kernel
theorem dX8_takeWord_4 : decode cX8_takeWord 4 = .ok (.ifCond .ne 5, 3) := by decide +kernel
theorem dX8_takeWord_7 : decode cX8_takeWord 7 = .ok (.iconst 0, 1) := by decide +kernel
theorem dX8_takeWord_8 : decode cX8_takeWord 8 = .ok (.ireturn, 1) := by decide +kernel
theorem dX8_takeWord_9 : decode cX8_takeWord 9 = .ok (.aload_n 0, 1) := by decide +kernel
theorem dX8_takeWord_10 : decode cX8_takeWord 10 = .ok (.invokevirtual 125, 3) := by decide +kernel
theorem dX8_takeWord_13 : decode cX8_takeWord 13 = .ok (.pop, 1) := by decide +kernel
theorem dX8_takeWord_14 : decode cX8_takeWord 14 = .ok (.iconst 0, 1) := by decide +kernel
theorem dX8_takeWord_15 : decode cX8_takeWord 15 = .ok (.istore_n 2, 1) := by decide +kernel
theorem dX8_takeWord_16 : decode cX8_takeWord 16 = .ok (.iload_n 2, 1) := by decide +kernel
theorem dX8_takeWord_17 : decode cX8_takeWord 17 = .ok (.aload_n 1, 1) := by decide +kernel
theorem dX8_takeWord_18 : decode cX8_takeWord 18 = .ok (.invokevirtual 129, 3) := by decide +kernel
theorem dX8_takeWord_21 : decode cX8_takeWord 21 = .ok (.if_icmp .ge 27, 3) := by decide +kernel
theorem dX8_takeWord_24 : decode cX8_takeWord 24 = .ok (.aload_n 0, 1) := by decide +kernel
theorem dX8_takeWord_25 : decode cX8_takeWord 25 = .ok (.aload_n 0, 1) := by decide +kernel
theorem dX8_takeWord_26 : decode cX8_takeWord 26 = .ok (.getfield 104, 3) := by decide +kernel
theorem dX8_takeWord_29 : decode cX8_takeWord 29 = .ok (.iload_n 2, 1) := by decide +kernel
theorem dX8_takeWord_30 : decode cX8_takeWord 30 = .ok (.iadd, 1) := by decide +kernel
theorem dX8_takeWord_31 : decode cX8_takeWord 31 = .ok (.invokevirtual 107, 3) := by decide +kernel
theorem dX8_takeWord_34 : decode cX8_takeWord 34 = .ok (.aload_n 1, 1) := by decide +kernel
theorem dX8_takeWord_35 : decode cX8_takeWord 35 = .ok (.iload_n 2, 1) := by decide +kernel
theorem dX8_takeWord_36 : decode cX8_takeWord 36 = .ok (.invokevirtual 134, 3) := by decide +kernel
theorem dX8_takeWord_39 : decode cX8_takeWord 39 = .ok (.if_icmp .ne 9, 3) := by decide +kernel
theorem dX8_takeWord_42 : decode cX8_takeWord 42 = .ok (.iinc 2 1, 3) := by decide +kernel
theorem dX8_takeWord_45 : decode cX8_takeWord 45 = .ok (.goto (-29), 3) := by decide +kernel
theorem dX8_takeWord_48 : decode cX8_takeWord 48 = .ok (.iload_n 2, 1) := by decide +kernel
theorem dX8_takeWord_49 : decode cX8_takeWord 49 = .ok (.aload_n 1, 1) := by decide +kernel
theorem dX8_takeWord_50 : decode cX8_takeWord 50 = .ok (.invokevirtual 129, 3) := by decide +kernel
theorem dX8_takeWord_53 : decode cX8_takeWord 53 = .ok (.if_icmp .lt 23, 3) := by decide +kernel
theorem dX8_takeWord_56 : decode cX8_takeWord 56 = .ok (.aload_n 0, 1) := by decide +kernel
theorem dX8_takeWord_57 : decode cX8_takeWord 57 = .ok (.aload_n 0, 1) := by decide +kernel
theorem dX8_takeWord_58 : decode cX8_takeWord 58 = .ok (.getfield 104, 3) := by decide +kernel
theorem dX8_takeWord_61 : decode cX8_takeWord 61 = .ok (.iload_n 2, 1) := by decide +kernel
theorem dX8_takeWord_62 : decode cX8_takeWord 62 = .ok (.iadd, 1) := by decide +kernel
theorem dX8_takeWord_63 : decode cX8_takeWord 63 = .ok (.invokevirtual 107, 3) := by decide +kernel
theorem dX8_takeWord_66 : decode cX8_takeWord 66 = .ok (.bipush 97, 2) := by decide +kernel
theorem dX8_takeWord_68 : decode cX8_takeWord 68 = .ok (.bipush 122, 2) := by decide +kernel
theorem dX8_takeWord_70 : decode cX8_takeWord 70 = .ok (.invokestatic 117, 3) := by decide +kernel
theorem dX8_takeWord_73 : decode cX8_takeWord 73 = .ok (.ifCond .eq 5, 3) := by decide +kernel
theorem dX8_takeWord_76 : decode cX8_takeWord 76 = .ok (.iconst 0, 1) := by decide +kernel
theorem dX8_takeWord_77 : decode cX8_takeWord 77 = .ok (.ireturn, 1) := by decide +kernel
theorem dX8_takeWord_78 : decode cX8_takeWord 78 = .ok (.aload_n 0, 1) := by decide +kernel
theorem dX8_takeWord_79 : decode cX8_takeWord 79 = .ok (.dup, 1) := by decide +kernel
theorem dX8_takeWord_80 : decode cX8_takeWord 80 = .ok (.getfield 104, 3) := by decide +kernel
theorem dX8_takeWord_83 : decode cX8_takeWord 83 = .ok (.iload_n 2, 1) := by decide +kernel
theorem dX8_takeWord_84 : decode cX8_takeWord 84 = .ok (.iadd, 1) := by decide +kernel
theorem dX8_takeWord_85 : decode cX8_takeWord 85 = .ok (.putfield 104, 3) := by decide +kernel
theorem dX8_takeWord_88 : decode cX8_takeWord 88 = .ok (.iconst 1, 1) := by decide +kernel
theorem dX8_takeWord_89 : decode cX8_takeWord 89 = .ok (.ireturn, 1) := by decide +kernel
theorem dX8_expect_0 : decode cX8_expect 0 = .ok (.aload_n 0, 1) := by decide +kernel
theorem dX8_expect_1 : decode cX8_expect 1 = .ok (.invokevirtual 121, 3) := by decide +kernel
theorem dX8_expect_4 : decode cX8_expect 4 = .ok (.ifCond .ne 4, 3) := by decide +kernel
theorem dX8_expect_7 : decode cX8_expect 7 = .ok (.return_, 1) := by decide +kernel
theorem dX8_expect_8 : decode cX8_expect 8 = .ok (.aload_n 0, 1) := by decide +kernel
theorem dX8_expect_9 : decode cX8_expect 9 = .ok (.invokevirtual 125, 3) := by decide +kernel
theorem dX8_expect_12 : decode cX8_expect 12 = .ok (.iload_n 1, 1) := by decide +kernel
theorem dX8_expect_13 : decode cX8_expect 13 = .ok (.if_icmp .ne 16, 3) := by decide +kernel
theorem dX8_expect_16 : decode cX8_expect 16 = .ok (.aload_n 0, 1) := by decide +kernel
theorem dX8_expect_17 : decode cX8_expect 17 = .ok (.dup, 1) := by decide +kernel
theorem dX8_expect_18 : decode cX8_expect 18 = .ok (.getfield 104, 3) := by decide +kernel
theorem dX8_expect_21 : decode cX8_expect 21 = .ok (.iconst 1, 1) := by decide +kernel
theorem dX8_expect_22 : decode cX8_expect 22 = .ok (.iadd, 1) := by decide +kernel
theorem dX8_expect_23 : decode cX8_expect 23 = .ok (.putfield 104, 3) := by decide +kernel
theorem dX8_expect_26 : decode cX8_expect 26 = .ok (.goto 13, 3) := by decide +kernel
theorem dX8_expect_29 : decode cX8_expect 29 = .ok (.aload_n 0, 1) := by decide +kernel
theorem dX8_expect_30 : decode cX8_expect 30 = .ok (.bipush (-2), 2) := by decide +kernel
theorem dX8_expect_32 : decode cX8_expect 32 = .ok (.aload_n 0, 1) := by decide +kernel
theorem dX8_expect_33 : decode cX8_expect 33 = .ok (.getfield 104, 3) := by decide +kernel
theorem dX8_expect_36 : decode cX8_expect 36 = .ok (.invokevirtual 138, 3) := by decide +kernel
theorem dX8_expect_39 : decode cX8_expect 39 = .ok (.return_, 1) := by decide +kernel
theorem dX8_number_0 : decode cX8_number 0 = .ok (.aload_n 0, 1) := by decide +kernel
theorem dX8_number_1 : decode cX8_number 1 = .ok (.invokevirtual 121, 3) := by decide +kernel
theorem dX8_number_4 : decode cX8_number 4 = .ok (.ifCond .ne 5, 3) := by decide +kernel
theorem dX8_number_7 : decode cX8_number 7 = .ok (.iconst 0, 1) := by decide +kernel
theorem dX8_number_8 : decode cX8_number 8 = .ok (.ireturn, 1) := by decide +kernel
theorem dX8_number_9 : decode cX8_number 9 = .ok (.aload_n 0, 1) := by decide +kernel
theorem dX8_number_10 : decode cX8_number 10 = .ok (.invokevirtual 125, 3) := by decide +kernel
theorem dX8_number_13 : decode cX8_number 13 = .ok (.invokestatic 142, 3) := by decide +kernel
theorem dX8_number_16 : decode cX8_number 16 = .ok (.ifCond .ne 15, 3) := by decide +kernel
theorem dX8_number_19 : decode cX8_number 19 = .ok (.aload_n 0, 1) := by decide +kernel
theorem dX8_number_20 : decode cX8_number 20 = .ok (.bipush (-2), 2) := by decide +kernel
theorem dX8_number_22 : decode cX8_number 22 = .ok (.aload_n 0, 1) := by decide +kernel
theorem dX8_number_23 : decode cX8_number 23 = .ok (.getfield 104, 3) := by decide +kernel
theorem dX8_number_26 : decode cX8_number 26 = .ok (.invokevirtual 138, 3) := by decide +kernel
theorem dX8_number_29 : decode cX8_number 29 = .ok (.iconst 0, 1) := by decide +kernel
theorem dX8_number_30 : decode cX8_number 30 = .ok (.ireturn, 1) := by decide +kernel
theorem dX8_number_31 : decode cX8_number 31 = .ok (.aload_n 0, 1) := by decide +kernel
theorem dX8_number_32 : decode cX8_number 32 = .ok (.aload_n 0, 1) := by decide +kernel
theorem dX8_number_33 : decode cX8_number 33 = .ok (.getfield 104, 3) := by decide +kernel
theorem dX8_number_36 : decode cX8_number 36 = .ok (.putfield 146, 3) := by decide +kernel
theorem dX8_number_39 : decode cX8_number 39 = .ok (.iconst 0, 1) := by decide +kernel
theorem dX8_number_40 : decode cX8_number 40 = .ok (.istore_n 3, 1) := by decide +kernel
theorem dX8_number_41 : decode cX8_number 41 = .ok (.aload_n 0, 1) := by decide +kernel
theorem dX8_number_42 : decode cX8_number 42 = .ok (.aload_n 0, 1) := by decide +kernel
theorem dX8_number_43 : decode cX8_number 43 = .ok (.getfield 104, 3) := by decide +kernel
theorem dX8_number_46 : decode cX8_number 46 = .ok (.invokevirtual 107, 3) := by decide +kernel
theorem dX8_number_49 : decode cX8_number 49 = .ok (.invokestatic 142, 3) := by decide +kernel
theorem dX8_number_52 : decode cX8_number 52 = .ok (.ifCond .eq 38, 3) := by decide +kernel
theorem dX8_number_55 : decode cX8_number 55 = .ok (.ldc 149, 2) := by decide +kernel
theorem dX8_number_57 : decode cX8_number 57 = .ok (.bipush 10, 2) := by decide +kernel
theorem dX8_number_59 : decode cX8_number 59 = .ok (.iload_n 3, 1) := by decide +kernel
theorem dX8_number_60 : decode cX8_number 60 = .ok (.imul, 1) := by decide +kernel
theorem dX8_number_61 : decode cX8_number 61 = .ok (.aload_n 0, 1) := by decide +kernel
theorem dX8_number_62 : decode cX8_number 62 = .ok (.aload_n 0, 1) := by decide +kernel
theorem dX8_number_63 : decode cX8_number 63 = .ok (.getfield 104, 3) := by decide +kernel
theorem dX8_number_66 : decode cX8_number 66 = .ok (.invokevirtual 107, 3) := by decide +kernel
theorem dX8_number_69 : decode cX8_number 69 = .ok (.iadd, 1) := by decide +kernel
theorem dX8_number_70 : decode cX8_number 70 = .ok (.bipush 48, 2) := by decide +kernel
theorem dX8_number_72 : decode cX8_number 72 = .ok (.isub, 1) := by decide +kernel
theorem dX8_number_73 : decode cX8_number 73 = .ok (.invokestatic 71, 3) := by decide +kernel
theorem dX8_number_76 : decode cX8_number 76 = .ok (.istore_n 3, 1) := by decide +kernel
theorem dX8_number_77 : decode cX8_number 77 = .ok (.aload_n 0, 1) := by decide +kernel
theorem dX8_number_78 : decode cX8_number 78 = .ok (.dup, 1) := by decide +kernel
theorem dX8_number_79 : decode cX8_number 79 = .ok (.getfield 104, 3) := by decide +kernel
theorem dX8_number_82 : decode cX8_number 82 = .ok (.iconst 1, 1) := by decide +kernel
theorem dX8_number_83 : decode cX8_number 83 = .ok (.iadd, 1) := by decide +kernel
theorem dX8_number_84 : decode cX8_number 84 = .ok (.putfield 104, 3) := by decide +kernel
theorem dX8_number_87 : decode cX8_number 87 = .ok (.goto (-46), 3) := by decide +kernel
theorem dX8_number_90 : decode cX8_number 90 = .ok (.iload_n 3, 1) := by decide +kernel
theorem dX8_number_91 : decode cX8_number 91 = .ok (.iload_n 1, 1) := by decide +kernel
theorem dX8_number_92 : decode cX8_number 92 = .ok (.iload_n 2, 1) := by decide +kernel
theorem dX8_number_93 : decode cX8_number 93 = .ok (.invokestatic 117, 3) := by decide +kernel
theorem dX8_number_96 : decode cX8_number 96 = .ok (.ifCond .ne 13, 3) := by decide +kernel
theorem dX8_number_99 : decode cX8_number 99 = .ok (.aload_n 0, 1) := by decide +kernel
theorem dX8_number_100 : decode cX8_number 100 = .ok (.bipush (-3), 2) := by decide +kernel
theorem dX8_number_102 : decode cX8_number 102 = .ok (.aload_n 0, 1) := by decide +kernel
theorem dX8_number_103 : decode cX8_number 103 = .ok (.getfield 146, 3) := by decide +kernel
theorem dX8_number_106 : decode cX8_number 106 = .ok (.invokevirtual 138, 3) := by decide +kernel
theorem dX8_number_109 : decode cX8_number 109 = .ok (.aload_n 0, 1) := by decide +kernel
theorem dX8_number_110 : decode cX8_number 110 = .ok (.invokevirtual 121, 3) := by decide +kernel
theorem dX8_number_113 : decode cX8_number 113 = .ok (.ifCond .eq 7, 3) := by decide +kernel
theorem dX8_number_116 : decode cX8_number 116 = .ok (.iload_n 3, 1) := by decide +kernel
theorem dX8_number_117 : decode cX8_number 117 = .ok (.goto 4, 3) := by decide +kernel
theorem dX8_number_120 : decode cX8_number 120 = .ok (.iconst 0, 1) := by decide +kernel
theorem dX8_number_121 : decode cX8_number 121 = .ok (.ireturn, 1) := by decide +kernel
theorem dX8_called_0 : decode cX8_called 0 = .ok (.iconst 0, 1) := by decide +kernel
theorem dX8_called_1 : decode cX8_called 1 = .ok (.istore 4, 2) := by decide +kernel
theorem dX8_called_3 : decode cX8_called 3 = .ok (.iload 4, 2) := by decide +kernel
theorem dX8_called_5 : decode cX8_called 5 = .ok (.aload_n 1, 1) := by decide +kernel
theorem dX8_called_6 : decode cX8_called 6 = .ok (.iconst 5, 1) := by decide +kernel
theorem dX8_called_7 : decode cX8_called 7 = .ok (.iaload, 1) := by decide +kernel
theorem dX8_called_8 : decode cX8_called 8 = .ok (.if_icmp .ge 72, 3) := by decide +kernel
theorem dX8_called_11 : decode cX8_called 11 = .ok (.iconst 1, 1) := by decide +kernel
theorem dX8_called_12 : decode cX8_called 12 = .ok (.istore 5, 2) := by decide +kernel
theorem dX8_called_14 : decode cX8_called 14 = .ok (.iconst 0, 1) := by decide +kernel
theorem dX8_called_15 : decode cX8_called 15 = .ok (.istore 6, 2) := by decide +kernel
theorem dX8_called_17 : decode cX8_called 17 = .ok (.iload 6, 2) := by decide +kernel
theorem dX8_called_19 : decode cX8_called 19 = .ok (.bipush 6, 2) := by decide +kernel
theorem dX8_called_21 : decode cX8_called 21 = .ok (.if_icmp .ge 45, 3) := by decide +kernel
theorem dX8_called_24 : decode cX8_called 24 = .ok (.aload_n 1, 1) := by decide +kernel
theorem dX8_called_25 : decode cX8_called 25 = .ok (.iload 4, 2) := by decide +kernel
theorem dX8_called_27 : decode cX8_called 27 = .ok (.iconst 4, 1) := by decide +kernel
theorem dX8_called_28 : decode cX8_called 28 = .ok (.iload 6, 2) := by decide +kernel
theorem dX8_called_30 : decode cX8_called 30 = .ok (.iadd, 1) := by decide +kernel
theorem dX8_called_31 : decode cX8_called 31 = .ok (.invokestatic 61, 3) := by decide +kernel
theorem dX8_called_34 : decode cX8_called 34 = .ok (.iaload, 1) := by decide +kernel
theorem dX8_called_35 : decode cX8_called 35 = .ok (.iload 6, 2) := by decide +kernel
theorem dX8_called_37 : decode cX8_called 37 = .ok (.iload_n 3, 1) := by decide +kernel
theorem dX8_called_38 : decode cX8_called 38 = .ok (.if_icmp .ge 15, 3) := by decide +kernel
theorem dX8_called_41 : decode cX8_called 41 = .ok (.aload_n 0, 1) := by decide +kernel
theorem dX8_called_42 : decode cX8_called 42 = .ok (.getfield 9, 3) := by decide +kernel
theorem dX8_called_45 : decode cX8_called 45 = .ok (.iload_n 2, 1) := by decide +kernel
theorem dX8_called_46 : decode cX8_called 46 = .ok (.iload 6, 2) := by decide +kernel
theorem dX8_called_48 : decode cX8_called 48 = .ok (.iadd, 1) := by decide +kernel
theorem dX8_called_49 : decode cX8_called 49 = .ok (.iaload, 1) := by decide +kernel
theorem dX8_called_50 : decode cX8_called 50 = .ok (.goto 4, 3) := by decide +kernel
theorem dX8_called_53 : decode cX8_called 53 = .ok (.iconst 0, 1) := by decide +kernel
theorem dX8_called_54 : decode cX8_called 54 = .ok (.if_icmp .eq 6, 3) := by decide +kernel
theorem dX8_called_57 : decode cX8_called 57 = .ok (.iconst 0, 1) := by decide +kernel
theorem dX8_called_58 : decode cX8_called 58 = .ok (.istore 5, 2) := by decide +kernel
theorem dX8_called_60 : decode cX8_called 60 = .ok (.iinc 6 1, 3) := by decide +kernel
theorem dX8_called_63 : decode cX8_called 63 = .ok (.goto (-46), 3) := by decide +kernel
theorem dX8_called_66 : decode cX8_called 66 = .ok (.iload 5, 2) := by decide +kernel
theorem dX8_called_68 : decode cX8_called 68 = .ok (.ifCond .eq 6, 3) := by decide +kernel
theorem dX8_called_71 : decode cX8_called 71 = .ok (.iload 4, 2) := by decide +kernel
theorem dX8_called_73 : decode cX8_called 73 = .ok (.ireturn, 1) := by decide +kernel
theorem dX8_called_74 : decode cX8_called 74 = .ok (.iinc 4 1, 3) := by decide +kernel
theorem dX8_called_77 : decode cX8_called 77 = .ok (.goto (-74), 3) := by decide +kernel
theorem dX8_called_80 : decode cX8_called 80 = .ok (.iconst (-1), 1) := by decide +kernel
theorem dX8_called_81 : decode cX8_called 81 = .ok (.ireturn, 1) := by decide +kernel
theorem dX8_name_0 : decode cX8_name 0 = .ok (.aload_n 0, 1) := by decide +kernel
theorem dX8_name_1 : decode cX8_name 1 = .ok (.invokevirtual 121, 3) := by decide +kernel
theorem dX8_name_4 : decode cX8_name 4 = .ok (.ifCond .ne 5, 3) := by decide +kernel
theorem dX8_name_7 : decode cX8_name 7 = .ok (.iconst 0, 1) := by decide +kernel
theorem dX8_name_8 : decode cX8_name 8 = .ok (.ireturn, 1) := by decide +kernel
theorem dX8_name_9 : decode cX8_name 9 = .ok (.aload_n 0, 1) := by decide +kernel
theorem dX8_name_10 : decode cX8_name 10 = .ok (.invokevirtual 125, 3) := by decide +kernel
theorem dX8_name_13 : decode cX8_name 13 = .ok (.pop, 1) := by decide +kernel
theorem dX8_name_14 : decode cX8_name 14 = .ok (.aload_n 0, 1) := by decide +kernel
theorem dX8_name_15 : decode cX8_name 15 = .ok (.aload_n 0, 1) := by decide +kernel
theorem dX8_name_16 : decode cX8_name 16 = .ok (.getfield 104, 3) := by decide +kernel
theorem dX8_name_19 : decode cX8_name 19 = .ok (.putfield 150, 3) := by decide +kernel
theorem dX8_name_22 : decode cX8_name 22 = .ok (.aload_n 0, 1) := by decide +kernel
theorem dX8_name_23 : decode cX8_name 23 = .ok (.iconst 0, 1) := by decide +kernel
theorem dX8_name_24 : decode cX8_name 24 = .ok (.putfield 153, 3) := by decide +kernel
theorem dX8_name_27 : decode cX8_name 27 = .ok (.aload_n 0, 1) := by decide +kernel
theorem dX8_name_28 : decode cX8_name 28 = .ok (.aload_n 0, 1) := by decide +kernel
theorem dX8_name_29 : decode cX8_name 29 = .ok (.getfield 104, 3) := by decide +kernel
theorem dX8_name_32 : decode cX8_name 32 = .ok (.invokevirtual 107, 3) := by decide +kernel
theorem dX8_name_35 : decode cX8_name 35 = .ok (.bipush 97, 2) := by decide +kernel
theorem dX8_name_37 : decode cX8_name 37 = .ok (.bipush 122, 2) := by decide +kernel
theorem dX8_name_39 : decode cX8_name 39 = .ok (.invokestatic 117, 3) := by decide +kernel
theorem dX8_name_42 : decode cX8_name 42 = .ok (.ifCond .eq 26, 3) := by decide +kernel
theorem dX8_name_45 : decode cX8_name 45 = .ok (.aload_n 0, 1) := by decide +kernel
theorem dX8_name_46 : decode cX8_name 46 = .ok (.dup, 1) := by decide +kernel
theorem dX8_name_47 : decode cX8_name 47 = .ok (.getfield 104, 3) := by decide +kernel
theorem dX8_name_50 : decode cX8_name 50 = .ok (.iconst 1, 1) := by decide +kernel
theorem dX8_name_51 : decode cX8_name 51 = .ok (.iadd, 1) := by decide +kernel
theorem dX8_name_52 : decode cX8_name 52 = .ok (.putfield 104, 3) := by decide +kernel
theorem dX8_name_55 : decode cX8_name 55 = .ok (.aload_n 0, 1) := by decide +kernel
theorem dX8_name_56 : decode cX8_name 56 = .ok (.dup, 1) := by decide +kernel
theorem dX8_name_57 : decode cX8_name 57 = .ok (.getfield 153, 3) := by decide +kernel
theorem dX8_name_60 : decode cX8_name 60 = .ok (.iconst 1, 1) := by decide +kernel
theorem dX8_name_61 : decode cX8_name 61 = .ok (.iadd, 1) := by decide +kernel
theorem dX8_name_62 : decode cX8_name 62 = .ok (.putfield 153, 3) := by decide +kernel
theorem dX8_name_65 : decode cX8_name 65 = .ok (.goto (-38), 3) := by decide +kernel
theorem dX8_name_68 : decode cX8_name 68 = .ok (.aload_n 0, 1) := by decide +kernel
theorem dX8_name_69 : decode cX8_name 69 = .ok (.getfield 153, 3) := by decide +kernel
theorem dX8_name_72 : decode cX8_name 72 = .ok (.ifCond .ne 13, 3) := by decide +kernel
theorem dX8_name_75 : decode cX8_name 75 = .ok (.aload_n 0, 1) := by decide +kernel
theorem dX8_name_76 : decode cX8_name 76 = .ok (.bipush (-2), 2) := by decide +kernel
theorem dX8_name_78 : decode cX8_name 78 = .ok (.aload_n 0, 1) := by decide +kernel
theorem dX8_name_79 : decode cX8_name 79 = .ok (.getfield 150, 3) := by decide +kernel
theorem dX8_name_82 : decode cX8_name 82 = .ok (.invokevirtual 138, 3) := by decide +kernel
theorem dX8_name_85 : decode cX8_name 85 = .ok (.aload_n 0, 1) := by decide +kernel
theorem dX8_name_86 : decode cX8_name 86 = .ok (.getfield 153, 3) := by decide +kernel
theorem dX8_name_89 : decode cX8_name 89 = .ok (.bipush 6, 2) := by decide +kernel
theorem dX8_name_91 : decode cX8_name 91 = .ok (.if_icmp .le 13, 3) := by decide +kernel
theorem dX8_name_94 : decode cX8_name 94 = .ok (.aload_n 0, 1) := by decide +kernel
theorem dX8_name_95 : decode cX8_name 95 = .ok (.bipush (-3), 2) := by decide +kernel
theorem dX8_name_97 : decode cX8_name 97 = .ok (.aload_n 0, 1) := by decide +kernel
theorem dX8_name_98 : decode cX8_name 98 = .ok (.getfield 150, 3) := by decide +kernel
theorem dX8_name_101 : decode cX8_name 101 = .ok (.invokevirtual 138, 3) := by decide +kernel
theorem dX8_name_104 : decode cX8_name 104 = .ok (.aload_n 0, 1) := by decide +kernel
theorem dX8_name_105 : decode cX8_name 105 = .ok (.invokevirtual 121, 3) := by decide +kernel
theorem dX8_name_108 : decode cX8_name 108 = .ok (.ireturn, 1) := by decide +kernel
theorem dX8_known_0 : decode cX8_known 0 = .ok (.aload_n 0, 1) := by decide +kernel
theorem dX8_known_1 : decode cX8_known 1 = .ok (.invokevirtual 156, 3) := by decide +kernel
theorem dX8_known_4 : decode cX8_known 4 = .ok (.ifCond .ne 5, 3) := by decide +kernel
theorem dX8_known_7 : decode cX8_known 7 = .ok (.iconst 0, 1) := by decide +kernel
theorem dX8_known_8 : decode cX8_known 8 = .ok (.ireturn, 1) := by decide +kernel
theorem dX8_known_9 : decode cX8_known 9 = .ok (.aload_n 0, 1) := by decide +kernel
theorem dX8_known_10 : decode cX8_known 10 = .ok (.aload_n 0, 1) := by decide +kernel
theorem dX8_known_11 : decode cX8_known 11 = .ok (.getfield 20, 3) := by decide +kernel
theorem dX8_known_14 : decode cX8_known 14 = .ok (.aload_n 0, 1) := by decide +kernel
theorem dX8_known_15 : decode cX8_known 15 = .ok (.getfield 150, 3) := by decide +kernel
theorem dX8_known_18 : decode cX8_known 18 = .ok (.aload_n 0, 1) := by decide +kernel
theorem dX8_known_19 : decode cX8_known 19 = .ok (.getfield 153, 3) := by decide +kernel
theorem dX8_known_22 : decode cX8_known 22 = .ok (.invokevirtual 159, 3) := by decide +kernel
theorem dX8_known_25 : decode cX8_known 25 = .ok (.istore_n 1, 1) := by decide +kernel
theorem dX8_known_26 : decode cX8_known 26 = .ok (.iload_n 1, 1) := by decide +kernel
theorem dX8_known_27 : decode cX8_known 27 = .ok (.iconst (-1), 1) := by decide +kernel
theorem dX8_known_28 : decode cX8_known 28 = .ok (.if_icmp .ne 13, 3) := by decide +kernel
theorem dX8_known_31 : decode cX8_known 31 = .ok (.aload_n 0, 1) := by decide +kernel
theorem dX8_known_32 : decode cX8_known 32 = .ok (.bipush (-4), 2) := by decide +kernel
theorem dX8_known_34 : decode cX8_known 34 = .ok (.aload_n 0, 1) := by decide +kernel
theorem dX8_known_35 : decode cX8_known 35 = .ok (.getfield 150, 3) := by decide +kernel
theorem dX8_known_38 : decode cX8_known 38 = .ok (.invokevirtual 138, 3) := by decide +kernel
theorem dX8_known_41 : decode cX8_known 41 = .ok (.iconst 0, 1) := by decide +kernel
theorem dX8_known_42 : decode cX8_known 42 = .ok (.iload_n 1, 1) := by decide +kernel
theorem dX8_known_43 : decode cX8_known 43 = .ok (.invokestatic 162, 3) := by decide +kernel
theorem dX8_known_46 : decode cX8_known 46 = .ok (.ireturn, 1) := by decide +kernel
theorem dX8_readGate_0 : decode cX8_readGate 0 = .ok (.aload_n 0, 1) := by decide +kernel
theorem dX8_readGate_1 : decode cX8_readGate 1 = .ok (.invokevirtual 125, 3) := by decide +kernel
theorem dX8_readGate_4 : decode cX8_readGate 4 = .ok (.pop, 1) := by decide +kernel
theorem dX8_readGate_5 : decode cX8_readGate 5 = .ok (.aload_n 0, 1) := by decide +kernel
theorem dX8_readGate_6 : decode cX8_readGate 6 = .ok (.getfield 104, 3) := by decide +kernel
theorem dX8_readGate_9 : decode cX8_readGate 9 = .ok (.istore_n 1, 1) := by decide +kernel
theorem dX8_readGate_10 : decode cX8_readGate 10 = .ok (.aload_n 0, 1) := by decide +kernel
theorem dX8_readGate_11 : decode cX8_readGate 11 = .ok (.ldc 165, 2) := by decide +kernel
theorem dX8_readGate_13 : decode cX8_readGate 13 = .ok (.invokevirtual 166, 3) := by decide +kernel
theorem dX8_readGate_16 : decode cX8_readGate 16 = .ok (.ifCond .eq 14, 3) := by decide +kernel
theorem dX8_readGate_19 : decode cX8_readGate 19 = .ok (.aload_n 0, 1) := by decide +kernel
theorem dX8_readGate_20 : decode cX8_readGate 20 = .ok (.getfield 20, 3) := by decide +kernel
theorem dX8_readGate_23 : decode cX8_readGate 23 = .ok (.iconst 0, 1) := by decide +kernel
theorem dX8_readGate_24 : decode cX8_readGate 24 = .ok (.invokestatic 170, 3) := by decide +kernel
theorem dX8_readGate_27 : decode cX8_readGate 27 = .ok (.goto 50, 3) := by decide +kernel
theorem dX8_readGate_30 : decode cX8_readGate 30 = .ok (.aload_n 0, 1) := by decide +kernel
theorem dX8_readGate_31 : decode cX8_readGate 31 = .ok (.ldc 173, 2) := by decide +kernel
theorem dX8_readGate_33 : decode cX8_readGate 33 = .ok (.invokevirtual 166, 3) := by decide +kernel
theorem dX8_readGate_36 : decode cX8_readGate 36 = .ok (.ifCond .eq 14, 3) := by decide +kernel
theorem dX8_readGate_39 : decode cX8_readGate 39 = .ok (.aload_n 0, 1) := by decide +kernel
theorem dX8_readGate_40 : decode cX8_readGate 40 = .ok (.getfield 20, 3) := by decide +kernel
theorem dX8_readGate_43 : decode cX8_readGate 43 = .ok (.iconst 1, 1) := by decide +kernel
theorem dX8_readGate_44 : decode cX8_readGate 44 = .ok (.invokestatic 170, 3) := by decide +kernel
theorem dX8_readGate_47 : decode cX8_readGate 47 = .ok (.goto 30, 3) := by decide +kernel
theorem dX8_readGate_50 : decode cX8_readGate 50 = .ok (.aload_n 0, 1) := by decide +kernel
theorem dX8_readGate_51 : decode cX8_readGate 51 = .ok (.ldc 175, 2) := by decide +kernel
theorem dX8_readGate_53 : decode cX8_readGate 53 = .ok (.invokevirtual 166, 3) := by decide +kernel
theorem dX8_readGate_56 : decode cX8_readGate 56 = .ok (.ifCond .eq 14, 3) := by decide +kernel
theorem dX8_readGate_59 : decode cX8_readGate 59 = .ok (.aload_n 0, 1) := by decide +kernel
theorem dX8_readGate_60 : decode cX8_readGate 60 = .ok (.getfield 20, 3) := by decide +kernel
theorem dX8_readGate_63 : decode cX8_readGate 63 = .ok (.iconst 2, 1) := by decide +kernel
theorem dX8_readGate_64 : decode cX8_readGate 64 = .ok (.invokestatic 170, 3) := by decide +kernel
theorem dX8_readGate_67 : decode cX8_readGate 67 = .ok (.goto 10, 3) := by decide +kernel
theorem dX8_readGate_70 : decode cX8_readGate 70 = .ok (.aload_n 0, 1) := by decide +kernel
theorem dX8_readGate_71 : decode cX8_readGate 71 = .ok (.bipush (-2), 2) := by decide +kernel
theorem dX8_readGate_73 : decode cX8_readGate 73 = .ok (.iload_n 1, 1) := by decide +kernel
theorem dX8_readGate_74 : decode cX8_readGate 74 = .ok (.invokevirtual 138, 3) := by decide +kernel
theorem dX8_readGate_77 : decode cX8_readGate 77 = .ok (.return_, 1) := by decide +kernel
theorem dX8_readCard_0 : decode cX8_readCard 0 = .ok (.aload_n 0, 1) := by decide +kernel
theorem dX8_readCard_1 : decode cX8_readCard 1 = .ok (.getfield 20, 3) := by decide +kernel
theorem dX8_readCard_4 : decode cX8_readCard 4 = .ok (.iconst 5, 1) := by decide +kernel
theorem dX8_readCard_5 : decode cX8_readCard 5 = .ok (.iaload, 1) := by decide +kernel
theorem dX8_readCard_6 : decode cX8_readCard 6 = .ok (.istore_n 1, 1) := by decide +kernel
theorem dX8_readCard_7 : decode cX8_readCard 7 = .ok (.aload_n 0, 1) := by decide +kernel
theorem dX8_readCard_8 : decode cX8_readCard 8 = .ok (.invokevirtual 156, 3) := by decide +kernel
theorem dX8_readCard_11 : decode cX8_readCard 11 = .ok (.ifCond .ne 4, 3) := by decide +kernel
theorem dX8_readCard_14 : decode cX8_readCard 14 = .ok (.return_, 1) := by decide +kernel
theorem dX8_readCard_15 : decode cX8_readCard 15 = .ok (.aload_n 0, 1) := by decide +kernel
theorem dX8_readCard_16 : decode cX8_readCard 16 = .ok (.aload_n 0, 1) := by decide +kernel
theorem dX8_readCard_17 : decode cX8_readCard 17 = .ok (.getfield 20, 3) := by decide +kernel
theorem dX8_readCard_20 : decode cX8_readCard 20 = .ok (.aload_n 0, 1) := by decide +kernel
theorem dX8_readCard_21 : decode cX8_readCard 21 = .ok (.getfield 150, 3) := by decide +kernel
theorem dX8_readCard_24 : decode cX8_readCard 24 = .ok (.aload_n 0, 1) := by decide +kernel
theorem dX8_readCard_25 : decode cX8_readCard 25 = .ok (.getfield 153, 3) := by decide +kernel
theorem dX8_readCard_28 : decode cX8_readCard 28 = .ok (.invokevirtual 159, 3) := by decide +kernel
theorem dX8_readCard_31 : decode cX8_readCard 31 = .ok (.iconst (-1), 1) := by decide +kernel
theorem dX8_readCard_32 : decode cX8_readCard 32 = .ok (.if_icmp .eq 13, 3) := by decide +kernel
theorem dX8_readCard_35 : decode cX8_readCard 35 = .ok (.aload_n 0, 1) := by decide +kernel
theorem dX8_readCard_36 : decode cX8_readCard 36 = .ok (.bipush (-4), 2) := by decide +kernel
theorem dX8_readCard_38 : decode cX8_readCard 38 = .ok (.aload_n 0, 1) := by decide +kernel
theorem dX8_readCard_39 : decode cX8_readCard 39 = .ok (.getfield 150, 3) := by decide +kernel
theorem dX8_readCard_42 : decode cX8_readCard 42 = .ok (.invokevirtual 138, 3) := by decide +kernel
theorem dX8_readCard_45 : decode cX8_readCard 45 = .ok (.iconst 0, 1) := by decide +kernel
theorem dX8_readCard_46 : decode cX8_readCard 46 = .ok (.istore_n 2, 1) := by decide +kernel
theorem dX8_readCard_47 : decode cX8_readCard 47 = .ok (.iload_n 2, 1) := by decide +kernel
theorem dX8_readCard_48 : decode cX8_readCard 48 = .ok (.bipush 6, 2) := by decide +kernel
theorem dX8_readCard_50 : decode cX8_readCard 50 = .ok (.if_icmp .ge 44, 3) := by decide +kernel
theorem dX8_readCard_53 : decode cX8_readCard 53 = .ok (.aload_n 0, 1) := by decide +kernel
theorem dX8_readCard_54 : decode cX8_readCard 54 = .ok (.getfield 20, 3) := by decide +kernel
theorem dX8_readCard_57 : decode cX8_readCard 57 = .ok (.iload_n 1, 1) := by decide +kernel
theorem dX8_readCard_58 : decode cX8_readCard 58 = .ok (.iconst 4, 1) := by decide +kernel
theorem dX8_readCard_59 : decode cX8_readCard 59 = .ok (.iload_n 2, 1) := by decide +kernel
theorem dX8_readCard_60 : decode cX8_readCard 60 = .ok (.iadd, 1) := by decide +kernel
theorem dX8_readCard_61 : decode cX8_readCard 61 = .ok (.invokestatic 61, 3) := by decide +kernel
theorem dX8_readCard_64 : decode cX8_readCard 64 = .ok (.iload_n 2, 1) := by decide +kernel
theorem dX8_readCard_65 : decode cX8_readCard 65 = .ok (.aload_n 0, 1) := by decide +kernel
theorem dX8_readCard_66 : decode cX8_readCard 66 = .ok (.getfield 153, 3) := by decide +kernel
theorem dX8_readCard_69 : decode cX8_readCard 69 = .ok (.if_icmp .ge 17, 3) := by decide +kernel
theorem dX8_readCard_72 : decode cX8_readCard 72 = .ok (.aload_n 0, 1) := by decide +kernel
theorem dX8_readCard_73 : decode cX8_readCard 73 = .ok (.getfield 9, 3) := by decide +kernel
theorem dX8_readCard_76 : decode cX8_readCard 76 = .ok (.aload_n 0, 1) := by decide +kernel
theorem dX8_readCard_77 : decode cX8_readCard 77 = .ok (.getfield 150, 3) := by decide +kernel
theorem dX8_readCard_80 : decode cX8_readCard 80 = .ok (.iload_n 2, 1) := by decide +kernel
theorem dX8_readCard_81 : decode cX8_readCard 81 = .ok (.iadd, 1) := by decide +kernel
theorem dX8_readCard_82 : decode cX8_readCard 82 = .ok (.iaload, 1) := by decide +kernel
theorem dX8_readCard_83 : decode cX8_readCard 83 = .ok (.goto 4, 3) := by decide +kernel
theorem dX8_readCard_86 : decode cX8_readCard 86 = .ok (.iconst 0, 1) := by decide +kernel
theorem dX8_readCard_87 : decode cX8_readCard 87 = .ok (.iastore, 1) := by decide +kernel
theorem dX8_readCard_88 : decode cX8_readCard 88 = .ok (.iinc 2 1, 3) := by decide +kernel
theorem dX8_readCard_91 : decode cX8_readCard 91 = .ok (.goto (-44), 3) := by decide +kernel
theorem dX8_readCard_94 : decode cX8_readCard 94 = .ok (.aload_n 0, 1) := by decide +kernel
theorem dX8_readCard_95 : decode cX8_readCard 95 = .ok (.getfield 20, 3) := by decide +kernel
theorem dX8_readCard_98 : decode cX8_readCard 98 = .ok (.iload_n 1, 1) := by decide +kernel
theorem dX8_readCard_99 : decode cX8_readCard 99 = .ok (.iconst 0, 1) := by decide +kernel
theorem dX8_readCard_100 : decode cX8_readCard 100 = .ok (.invokestatic 61, 3) := by decide +kernel
theorem dX8_readCard_103 : decode cX8_readCard 103 = .ok (.aload_n 0, 1) := by decide +kernel
theorem dX8_readCard_104 : decode cX8_readCard 104 = .ok (.iconst 0, 1) := by decide +kernel
theorem dX8_readCard_105 : decode cX8_readCard 105 = .ok (.bipush 99, 2) := by decide +kernel
theorem dX8_readCard_107 : decode cX8_readCard 107 = .ok (.invokevirtual 177, 3) := by decide +kernel
theorem dX8_readCard_110 : decode cX8_readCard 110 = .ok (.iastore, 1) := by decide +kernel
theorem dX8_readCard_111 : decode cX8_readCard 111 = .ok (.aload_n 0, 1) := by decide +kernel
theorem dX8_readCard_112 : decode cX8_readCard 112 = .ok (.getfield 20, 3) := by decide +kernel
theorem dX8_readCard_115 : decode cX8_readCard 115 = .ok (.iconst 5, 1) := by decide +kernel
theorem dX8_readCard_116 : decode cX8_readCard 116 = .ok (.dup2, 1) := by decide +kernel
theorem dX8_readCard_117 : decode cX8_readCard 117 = .ok (.iaload, 1) := by decide +kernel
theorem dX8_readCard_118 : decode cX8_readCard 118 = .ok (.iconst 1, 1) := by decide +kernel
theorem dX8_readCard_119 : decode cX8_readCard 119 = .ok (.iadd, 1) := by decide +kernel
theorem dX8_readCard_120 : decode cX8_readCard 120 = .ok (.iastore, 1) := by decide +kernel
theorem dX8_readCard_121 : decode cX8_readCard 121 = .ok (.return_, 1) := by decide +kernel
theorem dX8_readList_0 : decode cX8_readList 0 = .ok (.iconst 1, 1) := by decide +kernel
theorem dX8_readList_1 : decode cX8_readList 1 = .ok (.istore_n 1, 1) := by decide +kernel
theorem dX8_readList_2 : decode cX8_readList 2 = .ok (.iload_n 1, 1) := by decide +kernel
theorem dX8_readList_3 : decode cX8_readList 3 = .ok (.ifCond .eq 42, 3) := by decide +kernel
theorem dX8_readList_6 : decode cX8_readList 6 = .ok (.aload_n 0, 1) := by decide +kernel
theorem dX8_readList_7 : decode cX8_readList 7 = .ok (.invokevirtual 180, 3) := by decide +kernel
theorem dX8_readList_10 : decode cX8_readList 10 = .ok (.istore_n 2, 1) := by decide +kernel
theorem dX8_readList_11 : decode cX8_readList 11 = .ok (.aload_n 0, 1) := by decide +kernel
theorem dX8_readList_12 : decode cX8_readList 12 = .ok (.invokevirtual 121, 3) := by decide +kernel
theorem dX8_readList_15 : decode cX8_readList 15 = .ok (.ifCond .ne 4, 3) := by decide +kernel
theorem dX8_readList_18 : decode cX8_readList 18 = .ok (.return_, 1) := by decide +kernel
theorem dX8_readList_19 : decode cX8_readList 19 = .ok (.aload_n 0, 1) := by decide +kernel
theorem dX8_readList_20 : decode cX8_readList 20 = .ok (.getfield 20, 3) := by decide +kernel
theorem dX8_readList_23 : decode cX8_readList 23 = .ok (.iload_n 2, 1) := by decide +kernel
theorem dX8_readList_24 : decode cX8_readList 24 = .ok (.iconst 2, 1) := by decide +kernel
theorem dX8_readList_25 : decode cX8_readList 25 = .ok (.invokestatic 61, 3) := by decide +kernel
theorem dX8_readList_28 : decode cX8_readList 28 = .ok (.iconst 1, 1) := by decide +kernel
theorem dX8_readList_29 : decode cX8_readList 29 = .ok (.iastore, 1) := by decide +kernel
theorem dX8_readList_30 : decode cX8_readList 30 = .ok (.aload_n 0, 1) := by decide +kernel
theorem dX8_readList_31 : decode cX8_readList 31 = .ok (.invokevirtual 125, 3) := by decide +kernel
theorem dX8_readList_34 : decode cX8_readList 34 = .ok (.bipush 97, 2) := by decide +kernel
theorem dX8_readList_36 : decode cX8_readList 36 = .ok (.bipush 122, 2) := by decide +kernel
theorem dX8_readList_38 : decode cX8_readList 38 = .ok (.invokestatic 117, 3) := by decide +kernel
theorem dX8_readList_41 : decode cX8_readList 41 = .ok (.istore_n 1, 1) := by decide +kernel
theorem dX8_readList_42 : decode cX8_readList 42 = .ok (.goto (-40), 3) := by decide +kernel
theorem dX8_readList_45 : decode cX8_readList 45 = .ok (.return_, 1) := by decide +kernel
theorem dX8_readWait_0 : decode cX8_readWait 0 = .ok (.aload_n 0, 1) := by decide +kernel
theorem dX8_readWait_1 : decode cX8_readWait 1 = .ok (.iconst 0, 1) := by decide +kernel
theorem dX8_readWait_2 : decode cX8_readWait 2 = .ok (.aload_n 0, 1) := by decide +kernel
theorem dX8_readWait_3 : decode cX8_readWait 3 = .ok (.getfield 20, 3) := by decide +kernel
theorem dX8_readWait_6 : decode cX8_readWait 6 = .ok (.iconst 4, 1) := by decide +kernel
theorem dX8_readWait_7 : decode cX8_readWait 7 = .ok (.iaload, 1) := by decide +kernel
theorem dX8_readWait_8 : decode cX8_readWait 8 = .ok (.iconst 1, 1) := by decide +kernel
theorem dX8_readWait_9 : decode cX8_readWait 9 = .ok (.isub, 1) := by decide +kernel
theorem dX8_readWait_10 : decode cX8_readWait 10 = .ok (.invokevirtual 177, 3) := by decide +kernel
theorem dX8_readWait_13 : decode cX8_readWait 13 = .ok (.istore_n 1, 1) := by decide +kernel
theorem dX8_readWait_14 : decode cX8_readWait 14 = .ok (.aload_n 0, 1) := by decide +kernel
theorem dX8_readWait_15 : decode cX8_readWait 15 = .ok (.invokevirtual 121, 3) := by decide +kernel
theorem dX8_readWait_18 : decode cX8_readWait 18 = .ok (.ifCond .ne 4, 3) := by decide +kernel
theorem dX8_readWait_21 : decode cX8_readWait 21 = .ok (.return_, 1) := by decide +kernel
theorem dX8_readWait_22 : decode cX8_readWait 22 = .ok (.aload_n 0, 1) := by decide +kernel
theorem dX8_readWait_23 : decode cX8_readWait 23 = .ok (.invokevirtual 125, 3) := by decide +kernel
theorem dX8_readWait_26 : decode cX8_readWait 26 = .ok (.pop, 1) := by decide +kernel
theorem dX8_readWait_27 : decode cX8_readWait 27 = .ok (.aload_n 0, 1) := by decide +kernel
theorem dX8_readWait_28 : decode cX8_readWait 28 = .ok (.getfield 104, 3) := by decide +kernel
theorem dX8_readWait_31 : decode cX8_readWait 31 = .ok (.istore_n 2, 1) := by decide +kernel
theorem dX8_readWait_32 : decode cX8_readWait 32 = .ok (.aload_n 0, 1) := by decide +kernel
theorem dX8_readWait_33 : decode cX8_readWait 33 = .ok (.ldc 165, 2) := by decide +kernel
theorem dX8_readWait_35 : decode cX8_readWait 35 = .ok (.invokevirtual 166, 3) := by decide +kernel
theorem dX8_readWait_38 : decode cX8_readWait 38 = .ok (.istore_n 3, 1) := by decide +kernel
theorem dX8_readWait_39 : decode cX8_readWait 39 = .ok (.iload_n 3, 1) := by decide +kernel
theorem dX8_readWait_40 : decode cX8_readWait 40 = .ok (.ifCond .ne 19, 3) := by decide +kernel
theorem dX8_readWait_43 : decode cX8_readWait 43 = .ok (.aload_n 0, 1) := by decide +kernel
theorem dX8_readWait_44 : decode cX8_readWait 44 = .ok (.ldc 173, 2) := by decide +kernel
theorem dX8_readWait_46 : decode cX8_readWait 46 = .ok (.invokevirtual 166, 3) := by decide +kernel
theorem dX8_readWait_49 : decode cX8_readWait 49 = .ok (.ifCond .ne 10, 3) := by decide +kernel
theorem dX8_readWait_52 : decode cX8_readWait 52 = .ok (.aload_n 0, 1) := by decide +kernel
theorem dX8_readWait_53 : decode cX8_readWait 53 = .ok (.bipush (-2), 2) := by decide +kernel
theorem dX8_readWait_55 : decode cX8_readWait 55 = .ok (.iload_n 2, 1) := by decide +kernel
theorem dX8_readWait_56 : decode cX8_readWait 56 = .ok (.invokevirtual 138, 3) := by decide +kernel
theorem dX8_readWait_59 : decode cX8_readWait 59 = .ok (.aload_n 0, 1) := by decide +kernel
theorem dX8_readWait_60 : decode cX8_readWait 60 = .ok (.invokevirtual 121, 3) := by decide +kernel
theorem dX8_readWait_63 : decode cX8_readWait 63 = .ok (.ifCond .eq 24, 3) := by decide +kernel
theorem dX8_readWait_66 : decode cX8_readWait 66 = .ok (.aload_n 0, 1) := by decide +kernel
theorem dX8_readWait_67 : decode cX8_readWait 67 = .ok (.invokevirtual 125, 3) := by decide +kernel
theorem dX8_readWait_70 : decode cX8_readWait 70 = .ok (.bipush 97, 2) := by decide +kernel
theorem dX8_readWait_72 : decode cX8_readWait 72 = .ok (.bipush 122, 2) := by decide +kernel
theorem dX8_readWait_74 : decode cX8_readWait 74 = .ok (.invokestatic 117, 3) := by decide +kernel
theorem dX8_readWait_77 : decode cX8_readWait 77 = .ok (.ifCond .eq 10, 3) := by decide +kernel
theorem dX8_readWait_80 : decode cX8_readWait 80 = .ok (.aload_n 0, 1) := by decide +kernel
theorem dX8_readWait_81 : decode cX8_readWait 81 = .ok (.invokevirtual 180, 3) := by decide +kernel
theorem dX8_readWait_84 : decode cX8_readWait 84 = .ok (.goto 4, 3) := by decide +kernel
theorem dX8_readWait_87 : decode cX8_readWait 87 = .ok (.iconst (-1), 1) := by decide +kernel
theorem dX8_readWait_88 : decode cX8_readWait 88 = .ok (.istore 4, 2) := by decide +kernel
theorem dX8_readWait_90 : decode cX8_readWait 90 = .ok (.aload_n 0, 1) := by decide +kernel
theorem dX8_readWait_91 : decode cX8_readWait 91 = .ok (.invokevirtual 121, 3) := by decide +kernel
theorem dX8_readWait_94 : decode cX8_readWait 94 = .ok (.ifCond .eq 32, 3) := by decide +kernel
theorem dX8_readWait_97 : decode cX8_readWait 97 = .ok (.aload_n 0, 1) := by decide +kernel
theorem dX8_readWait_98 : decode cX8_readWait 98 = .ok (.getfield 20, 3) := by decide +kernel
theorem dX8_readWait_101 : decode cX8_readWait 101 = .ok (.iload_n 1, 1) := by decide +kernel
theorem dX8_readWait_102 : decode cX8_readWait 102 = .ok (.iload_n 3, 1) := by decide +kernel
theorem dX8_readWait_103 : decode cX8_readWait 103 = .ok (.ifCond .eq 7, 3) := by decide +kernel
theorem dX8_readWait_106 : decode cX8_readWait 106 = .ok (.iconst 0, 1) := by decide +kernel
theorem dX8_readWait_107 : decode cX8_readWait 107 = .ok (.goto 4, 3) := by decide +kernel
theorem dX8_readWait_110 : decode cX8_readWait 110 = .ok (.iconst 1, 1) := by decide +kernel
theorem dX8_readWait_111 : decode cX8_readWait 111 = .ok (.iload 4, 2) := by decide +kernel
theorem dX8_readWait_113 : decode cX8_readWait 113 = .ok (.invokestatic 183, 3) := by decide +kernel
theorem dX8_readWait_116 : decode cX8_readWait 116 = .ok (.ifCond .ge 10, 3) := by decide +kernel
theorem dX8_readWait_119 : decode cX8_readWait 119 = .ok (.aload_n 0, 1) := by decide +kernel
theorem dX8_readWait_120 : decode cX8_readWait 120 = .ok (.bipush (-6), 2) := by decide +kernel
theorem dX8_readWait_122 : decode cX8_readWait 122 = .ok (.iload_n 2, 1) := by decide +kernel
theorem dX8_readWait_123 : decode cX8_readWait 123 = .ok (.invokevirtual 138, 3) := by decide +kernel
theorem dX8_readWait_126 : decode cX8_readWait 126 = .ok (.return_, 1) := by decide +kernel
theorem dX8_statement_0 : decode cX8_statement 0 = .ok (.aload_n 0, 1) := by decide +kernel
theorem dX8_statement_1 : decode cX8_statement 1 = .ok (.invokevirtual 125, 3) := by decide +kernel
theorem dX8_statement_4 : decode cX8_statement 4 = .ok (.pop, 1) := by decide +kernel
theorem dX8_statement_5 : decode cX8_statement 5 = .ok (.aload_n 0, 1) := by decide +kernel
theorem dX8_statement_6 : decode cX8_statement 6 = .ok (.getfield 104, 3) := by decide +kernel
theorem dX8_statement_9 : decode cX8_statement 9 = .ok (.istore_n 1, 1) := by decide +kernel
theorem dX8_statement_10 : decode cX8_statement 10 = .ok (.aload_n 0, 1) := by decide +kernel
theorem dX8_statement_11 : decode cX8_statement 11 = .ok (.ldc 186, 2) := by decide +kernel
theorem dX8_statement_13 : decode cX8_statement 13 = .ok (.invokevirtual 166, 3) := by decide +kernel
theorem dX8_statement_16 : decode cX8_statement 16 = .ok (.ifCond .eq 35, 3) := by decide +kernel
theorem dX8_statement_19 : decode cX8_statement 19 = .ok (.aload_n 0, 1) := by decide +kernel
theorem dX8_statement_20 : decode cX8_statement 20 = .ok (.getfield 20, 3) := by decide +kernel
theorem dX8_statement_23 : decode cX8_statement 23 = .ok (.iconst 4, 1) := by decide +kernel
theorem dX8_statement_24 : decode cX8_statement 24 = .ok (.iaload, 1) := by decide +kernel
theorem dX8_statement_25 : decode cX8_statement 25 = .ok (.bipush 6, 2) := by decide +kernel
theorem dX8_statement_27 : decode cX8_statement 27 = .ok (.if_icmp .ne 10, 3) := by decide +kernel
theorem dX8_statement_30 : decode cX8_statement 30 = .ok (.aload_n 0, 1) := by decide +kernel
theorem dX8_statement_31 : decode cX8_statement 31 = .ok (.bipush (-5), 2) := by decide +kernel
theorem dX8_statement_33 : decode cX8_statement 33 = .ok (.iload_n 1, 1) := by decide +kernel
theorem dX8_statement_34 : decode cX8_statement 34 = .ok (.invokevirtual 138, 3) := by decide +kernel
theorem dX8_statement_37 : decode cX8_statement 37 = .ok (.aload_n 0, 1) := by decide +kernel
theorem dX8_statement_38 : decode cX8_statement 38 = .ok (.invokevirtual 121, 3) := by decide +kernel
theorem dX8_statement_41 : decode cX8_statement 41 = .ok (.ifCond .eq 160, 3) := by decide +kernel
theorem dX8_statement_44 : decode cX8_statement 44 = .ok (.aload_n 0, 1) := by decide +kernel
theorem dX8_statement_45 : decode cX8_statement 45 = .ok (.invokevirtual 188, 3) := by decide +kernel
theorem dX8_statement_48 : decode cX8_statement 48 = .ok (.goto 153, 3) := by decide +kernel
theorem dX8_statement_51 : decode cX8_statement 51 = .ok (.aload_n 0, 1) := by decide +kernel
theorem dX8_statement_52 : decode cX8_statement 52 = .ok (.ldc 191, 2) := by decide +kernel
theorem dX8_statement_54 : decode cX8_statement 54 = .ok (.invokevirtual 166, 3) := by decide +kernel
theorem dX8_statement_57 : decode cX8_statement 57 = .ok (.ifCond .eq 35, 3) := by decide +kernel
theorem dX8_statement_60 : decode cX8_statement 60 = .ok (.aload_n 0, 1) := by decide +kernel
theorem dX8_statement_61 : decode cX8_statement 61 = .ok (.getfield 20, 3) := by decide +kernel
theorem dX8_statement_64 : decode cX8_statement 64 = .ok (.iconst 5, 1) := by decide +kernel
theorem dX8_statement_65 : decode cX8_statement 65 = .ok (.iaload, 1) := by decide +kernel
theorem dX8_statement_66 : decode cX8_statement 66 = .ok (.bipush 12, 2) := by decide +kernel
theorem dX8_statement_68 : decode cX8_statement 68 = .ok (.if_icmp .ne 10, 3) := by decide +kernel
theorem dX8_statement_71 : decode cX8_statement 71 = .ok (.aload_n 0, 1) := by decide +kernel
theorem dX8_statement_72 : decode cX8_statement 72 = .ok (.bipush (-5), 2) := by decide +kernel
theorem dX8_statement_74 : decode cX8_statement 74 = .ok (.iload_n 1, 1) := by decide +kernel
theorem dX8_statement_75 : decode cX8_statement 75 = .ok (.invokevirtual 138, 3) := by decide +kernel
theorem dX8_statement_78 : decode cX8_statement 78 = .ok (.aload_n 0, 1) := by decide +kernel
theorem dX8_statement_79 : decode cX8_statement 79 = .ok (.invokevirtual 121, 3) := by decide +kernel
theorem dX8_statement_82 : decode cX8_statement 82 = .ok (.ifCond .eq 119, 3) := by decide +kernel
theorem dX8_statement_85 : decode cX8_statement 85 = .ok (.aload_n 0, 1) := by decide +kernel
theorem dX8_statement_86 : decode cX8_statement 86 = .ok (.invokevirtual 193, 3) := by decide +kernel
theorem dX8_statement_89 : decode cX8_statement 89 = .ok (.goto 112, 3) := by decide +kernel
theorem dX8_statement_92 : decode cX8_statement 92 = .ok (.aload_n 0, 1) := by decide +kernel
theorem dX8_statement_93 : decode cX8_statement 93 = .ok (.ldc 196, 2) := by decide +kernel
theorem dX8_statement_95 : decode cX8_statement 95 = .ok (.invokevirtual 166, 3) := by decide +kernel
theorem dX8_statement_98 : decode cX8_statement 98 = .ok (.ifCond .eq 10, 3) := by decide +kernel
theorem dX8_statement_101 : decode cX8_statement 101 = .ok (.aload_n 0, 1) := by decide +kernel
theorem dX8_statement_102 : decode cX8_statement 102 = .ok (.invokevirtual 198, 3) := by decide +kernel
theorem dX8_statement_105 : decode cX8_statement 105 = .ok (.goto 96, 3) := by decide +kernel
theorem dX8_statement_108 : decode cX8_statement 108 = .ok (.aload_n 0, 1) := by decide +kernel
theorem dX8_statement_109 : decode cX8_statement 109 = .ok (.ldc 201, 2) := by decide +kernel
theorem dX8_statement_111 : decode cX8_statement 111 = .ok (.invokevirtual 166, 3) := by decide +kernel
theorem dX8_statement_114 : decode cX8_statement 114 = .ok (.ifCond .eq 10, 3) := by decide +kernel
theorem dX8_statement_117 : decode cX8_statement 117 = .ok (.aload_n 0, 1) := by decide +kernel
theorem dX8_statement_118 : decode cX8_statement 118 = .ok (.invokevirtual 203, 3) := by decide +kernel
theorem dX8_statement_121 : decode cX8_statement 121 = .ok (.goto 80, 3) := by decide +kernel
theorem dX8_statement_124 : decode cX8_statement 124 = .ok (.aload_n 0, 1) := by decide +kernel
theorem dX8_statement_125 : decode cX8_statement 125 = .ok (.ldc 206, 2) := by decide +kernel
theorem dX8_statement_127 : decode cX8_statement 127 = .ok (.invokevirtual 166, 3) := by decide +kernel
theorem dX8_statement_130 : decode cX8_statement 130 = .ok (.ifCond .eq 29, 3) := by decide +kernel
theorem dX8_statement_133 : decode cX8_statement 133 = .ok (.aload_n 0, 1) := by decide +kernel
theorem dX8_statement_134 : decode cX8_statement 134 = .ok (.iconst 1, 1) := by decide +kernel
theorem dX8_statement_135 : decode cX8_statement 135 = .ok (.bipush 99, 2) := by decide +kernel
theorem dX8_statement_137 : decode cX8_statement 137 = .ok (.invokevirtual 177, 3) := by decide +kernel
theorem dX8_statement_140 : decode cX8_statement 140 = .ok (.istore_n 2, 1) := by decide +kernel
theorem dX8_statement_141 : decode cX8_statement 141 = .ok (.aload_n 0, 1) := by decide +kernel
theorem dX8_statement_142 : decode cX8_statement 142 = .ok (.invokevirtual 121, 3) := by decide +kernel
theorem dX8_statement_145 : decode cX8_statement 145 = .ok (.ifCond .eq 11, 3) := by decide +kernel
theorem dX8_statement_148 : decode cX8_statement 148 = .ok (.aload_n 0, 1) := by decide +kernel
theorem dX8_statement_149 : decode cX8_statement 149 = .ok (.getfield 20, 3) := by decide +kernel
theorem dX8_statement_152 : decode cX8_statement 152 = .ok (.iload_n 2, 1) := by decide +kernel
theorem dX8_statement_153 : decode cX8_statement 153 = .ok (.invokestatic 208, 3) := by decide +kernel
theorem dX8_statement_156 : decode cX8_statement 156 = .ok (.goto 45, 3) := by decide +kernel
theorem dX8_statement_159 : decode cX8_statement 159 = .ok (.aload_n 0, 1) := by decide +kernel
theorem dX8_statement_160 : decode cX8_statement 160 = .ok (.ldc 211, 2) := by decide +kernel
theorem dX8_statement_162 : decode cX8_statement 162 = .ok (.invokevirtual 166, 3) := by decide +kernel
theorem dX8_statement_165 : decode cX8_statement 165 = .ok (.ifCond .eq 29, 3) := by decide +kernel
theorem dX8_statement_168 : decode cX8_statement 168 = .ok (.aload_n 0, 1) := by decide +kernel
theorem dX8_statement_169 : decode cX8_statement 169 = .ok (.iconst 0, 1) := by decide +kernel
theorem dX8_statement_170 : decode cX8_statement 170 = .ok (.iconst 2, 1) := by decide +kernel
theorem dX8_statement_171 : decode cX8_statement 171 = .ok (.invokevirtual 177, 3) := by decide +kernel
theorem dX8_statement_174 : decode cX8_statement 174 = .ok (.istore_n 2, 1) := by decide +kernel
theorem dX8_statement_175 : decode cX8_statement 175 = .ok (.aload_n 0, 1) := by decide +kernel
theorem dX8_statement_176 : decode cX8_statement 176 = .ok (.invokevirtual 121, 3) := by decide +kernel
theorem dX8_statement_179 : decode cX8_statement 179 = .ok (.ifCond .eq 12, 3) := by decide +kernel
theorem dX8_statement_182 : decode cX8_statement 182 = .ok (.aload_n 0, 1) := by decide +kernel
theorem dX8_statement_183 : decode cX8_statement 183 = .ok (.getfield 20, 3) := by decide +kernel
theorem dX8_statement_186 : decode cX8_statement 186 = .ok (.iload_n 2, 1) := by decide +kernel
theorem dX8_statement_187 : decode cX8_statement 187 = .ok (.invokestatic 213, 3) := by decide +kernel
theorem dX8_statement_190 : decode cX8_statement 190 = .ok (.pop, 1) := by decide +kernel
theorem dX8_statement_191 : decode cX8_statement 191 = .ok (.goto 10, 3) := by decide +kernel
theorem dX8_statement_194 : decode cX8_statement 194 = .ok (.aload_n 0, 1) := by decide +kernel
theorem dX8_statement_195 : decode cX8_statement 195 = .ok (.bipush (-2), 2) := by decide +kernel
theorem dX8_statement_197 : decode cX8_statement 197 = .ok (.iload_n 1, 1) := by decide +kernel
theorem dX8_statement_198 : decode cX8_statement 198 = .ok (.invokevirtual 138, 3) := by decide +kernel
theorem dX8_statement_201 : decode cX8_statement 201 = .ok (.aload_n 0, 1) := by decide +kernel
theorem dX8_statement_202 : decode cX8_statement 202 = .ok (.bipush 59, 2) := by decide +kernel
theorem dX8_statement_204 : decode cX8_statement 204 = .ok (.invokevirtual 216, 3) := by decide +kernel
theorem dX8_statement_207 : decode cX8_statement 207 = .ok (.return_, 1) := by decide +kernel
theorem dX8_load_0 : decode cX8_load 0 = .ok (.aload_n 0, 1) := by decide +kernel
theorem dX8_load_1 : decode cX8_load 1 = .ok (.iconst 0, 1) := by decide +kernel
theorem dX8_load_2 : decode cX8_load 2 = .ok (.putfield 31, 3) := by decide +kernel
theorem dX8_load_5 : decode cX8_load 5 = .ok (.aload_n 0, 1) := by decide +kernel
theorem dX8_load_6 : decode cX8_load 6 = .ok (.iload_n 1, 1) := by decide +kernel
theorem dX8_load_7 : decode cX8_load 7 = .ok (.iconst 0, 1) := by decide +kernel
theorem dX8_load_8 : decode cX8_load 8 = .ok (.aload_n 0, 1) := by decide +kernel
theorem dX8_load_9 : decode cX8_load 9 = .ok (.getfield 98, 3) := by decide +kernel
theorem dX8_load_12 : decode cX8_load 12 = .ok (.invokestatic 117, 3) := by decide +kernel
theorem dX8_load_15 : decode cX8_load 15 = .ok (.ifCond .ne 7, 3) := by decide +kernel
theorem dX8_load_18 : decode cX8_load 18 = .ok (.iconst 1, 1) := by decide +kernel
theorem dX8_load_19 : decode cX8_load 19 = .ok (.goto 4, 3) := by decide +kernel
theorem dX8_load_22 : decode cX8_load 22 = .ok (.iconst 0, 1) := by decide +kernel
theorem dX8_load_23 : decode cX8_load 23 = .ok (.iconst 1, 1) := by decide +kernel
theorem dX8_load_24 : decode cX8_load 24 = .ok (.invokevirtual 220, 3) := by decide +kernel
theorem dX8_load_27 : decode cX8_load 27 = .ok (.ifCond .eq 5, 3) := by decide +kernel
theorem dX8_load_30 : decode cX8_load 30 = .ok (.iconst 0, 1) := by decide +kernel
theorem dX8_load_31 : decode cX8_load 31 = .ok (.ireturn, 1) := by decide +kernel
theorem dX8_load_32 : decode cX8_load 32 = .ok (.aload_n 0, 1) := by decide +kernel
theorem dX8_load_33 : decode cX8_load 33 = .ok (.iconst 0, 1) := by decide +kernel
theorem dX8_load_34 : decode cX8_load 34 = .ok (.putfield 98, 3) := by decide +kernel
theorem dX8_load_37 : decode cX8_load 37 = .ok (.aload_n 0, 1) := by decide +kernel
theorem dX8_load_38 : decode cX8_load 38 = .ok (.iload_n 1, 1) := by decide +kernel
theorem dX8_load_39 : decode cX8_load 39 = .ok (.putfield 101, 3) := by decide +kernel
theorem dX8_load_42 : decode cX8_load 42 = .ok (.aload_n 0, 1) := by decide +kernel
theorem dX8_load_43 : decode cX8_load 43 = .ok (.iconst 0, 1) := by decide +kernel
theorem dX8_load_44 : decode cX8_load 44 = .ok (.putfield 104, 3) := by decide +kernel
theorem dX8_load_47 : decode cX8_load 47 = .ok (.aload_n 0, 1) := by decide +kernel
theorem dX8_load_48 : decode cX8_load 48 = .ok (.iconst 0, 1) := by decide +kernel
theorem dX8_load_49 : decode cX8_load 49 = .ok (.putfield 111, 3) := by decide +kernel
theorem dX8_load_52 : decode cX8_load 52 = .ok (.aload_n 0, 1) := by decide +kernel
theorem dX8_load_53 : decode cX8_load 53 = .ok (.iconst (-1), 1) := by decide +kernel
theorem dX8_load_54 : decode cX8_load 54 = .ok (.putfield 114, 3) := by decide +kernel
theorem dX8_load_57 : decode cX8_load 57 = .ok (.iconst 0, 1) := by decide +kernel
theorem dX8_load_58 : decode cX8_load 58 = .ok (.istore_n 2, 1) := by decide +kernel
theorem dX8_load_59 : decode cX8_load 59 = .ok (.iload_n 2, 1) := by decide +kernel
theorem dX8_load_60 : decode cX8_load 60 = .ok (.sipush 310, 3) := by decide +kernel
theorem dX8_load_63 : decode cX8_load 63 = .ok (.if_icmp .ge 16, 3) := by decide +kernel
theorem dX8_load_66 : decode cX8_load 66 = .ok (.aload_n 0, 1) := by decide +kernel
theorem dX8_load_67 : decode cX8_load 67 = .ok (.getfield 20, 3) := by decide +kernel
theorem dX8_load_70 : decode cX8_load 70 = .ok (.iload_n 2, 1) := by decide +kernel
theorem dX8_load_71 : decode cX8_load 71 = .ok (.iconst 0, 1) := by decide +kernel
theorem dX8_load_72 : decode cX8_load 72 = .ok (.iastore, 1) := by decide +kernel
theorem dX8_load_73 : decode cX8_load 73 = .ok (.iinc 2 1, 3) := by decide +kernel
theorem dX8_load_76 : decode cX8_load 76 = .ok (.goto (-17), 3) := by decide +kernel
theorem dX8_load_79 : decode cX8_load 79 = .ok (.aload_n 0, 1) := by decide +kernel
theorem dX8_load_80 : decode cX8_load 80 = .ok (.ldc 224, 2) := by decide +kernel
theorem dX8_load_82 : decode cX8_load 82 = .ok (.invokevirtual 166, 3) := by decide +kernel
theorem dX8_load_85 : decode cX8_load 85 = .ok (.ifCond .ne 13, 3) := by decide +kernel
theorem dX8_load_88 : decode cX8_load 88 = .ok (.aload_n 0, 1) := by decide +kernel
theorem dX8_load_89 : decode cX8_load 89 = .ok (.bipush (-2), 2) := by decide +kernel
theorem dX8_load_91 : decode cX8_load 91 = .ok (.aload_n 0, 1) := by decide +kernel
theorem dX8_load_92 : decode cX8_load 92 = .ok (.getfield 104, 3) := by decide +kernel
theorem dX8_load_95 : decode cX8_load 95 = .ok (.invokevirtual 138, 3) := by decide +kernel
theorem dX8_load_98 : decode cX8_load 98 = .ok (.aload_n 0, 1) := by decide +kernel
theorem dX8_load_99 : decode cX8_load 99 = .ok (.getfield 20, 3) := by decide +kernel
theorem dX8_load_102 : decode cX8_load 102 = .ok (.iconst 0, 1) := by decide +kernel
theorem dX8_load_103 : decode cX8_load 103 = .ok (.aload_n 0, 1) := by decide +kernel
theorem dX8_load_104 : decode cX8_load 104 = .ok (.iconst 1, 1) := by decide +kernel
theorem dX8_load_105 : decode cX8_load 105 = .ok (.bipush 9, 2) := by decide +kernel
theorem dX8_load_107 : decode cX8_load 107 = .ok (.invokevirtual 177, 3) := by decide +kernel
theorem dX8_load_110 : decode cX8_load 110 = .ok (.iastore, 1) := by decide +kernel
theorem dX8_load_111 : decode cX8_load 111 = .ok (.aload_n 0, 1) := by decide +kernel
theorem dX8_load_112 : decode cX8_load 112 = .ok (.getfield 20, 3) := by decide +kernel
theorem dX8_load_115 : decode cX8_load 115 = .ok (.iconst 1, 1) := by decide +kernel
theorem dX8_load_116 : decode cX8_load 116 = .ok (.aload_n 0, 1) := by decide +kernel
theorem dX8_load_117 : decode cX8_load 117 = .ok (.iconst 1, 1) := by decide +kernel
theorem dX8_load_118 : decode cX8_load 118 = .ok (.iconst 4, 1) := by decide +kernel
theorem dX8_load_119 : decode cX8_load 119 = .ok (.invokevirtual 177, 3) := by decide +kernel
theorem dX8_load_122 : decode cX8_load 122 = .ok (.iastore, 1) := by decide +kernel
theorem dX8_load_123 : decode cX8_load 123 = .ok (.aload_n 0, 1) := by decide +kernel
theorem dX8_load_124 : decode cX8_load 124 = .ok (.bipush 59, 2) := by decide +kernel
theorem dX8_load_126 : decode cX8_load 126 = .ok (.invokevirtual 216, 3) := by decide +kernel
theorem dX8_load_129 : decode cX8_load 129 = .ok (.aload_n 0, 1) := by decide +kernel
theorem dX8_load_130 : decode cX8_load 130 = .ok (.invokevirtual 121, 3) := by decide +kernel
theorem dX8_load_133 : decode cX8_load 133 = .ok (.ifCond .eq 18, 3) := by decide +kernel
theorem dX8_load_136 : decode cX8_load 136 = .ok (.aload_n 0, 1) := by decide +kernel
theorem dX8_load_137 : decode cX8_load 137 = .ok (.invokevirtual 125, 3) := by decide +kernel
theorem dX8_load_140 : decode cX8_load 140 = .ok (.iconst (-1), 1) := by decide +kernel
theorem dX8_load_141 : decode cX8_load 141 = .ok (.if_icmp .eq 10, 3) := by decide +kernel
theorem dX8_load_144 : decode cX8_load 144 = .ok (.aload_n 0, 1) := by decide +kernel
theorem dX8_load_145 : decode cX8_load 145 = .ok (.invokevirtual 226, 3) := by decide +kernel
theorem dX8_load_148 : decode cX8_load 148 = .ok (.goto (-19), 3) := by decide +kernel
theorem dX8_load_151 : decode cX8_load 151 = .ok (.aload_n 0, 1) := by decide +kernel
theorem dX8_load_152 : decode cX8_load 152 = .ok (.aload_n 0, 1) := by decide +kernel
theorem dX8_load_153 : decode cX8_load 153 = .ok (.getfield 114, 3) := by decide +kernel
theorem dX8_load_156 : decode cX8_load 156 = .ok (.putfield 13, 3) := by decide +kernel
theorem dX8_load_159 : decode cX8_load 159 = .ok (.aload_n 0, 1) := by decide +kernel
theorem dX8_load_160 : decode cX8_load 160 = .ok (.invokevirtual 121, 3) := by decide +kernel
theorem dX8_load_163 : decode cX8_load 163 = .ok (.ifCond .ne 8, 3) := by decide +kernel
theorem dX8_load_166 : decode cX8_load 166 = .ok (.aload_n 0, 1) := by decide +kernel
theorem dX8_load_167 : decode cX8_load 167 = .ok (.getfield 111, 3) := by decide +kernel
theorem dX8_load_170 : decode cX8_load 170 = .ok (.ireturn, 1) := by decide +kernel
theorem dX8_load_171 : decode cX8_load 171 = .ok (.aload_n 0, 1) := by decide +kernel
theorem dX8_load_172 : decode cX8_load 172 = .ok (.invokevirtual 229, 3) := by decide +kernel
theorem dX8_load_175 : decode cX8_load 175 = .ok (.aload_n 0, 1) := by decide +kernel
theorem dX8_load_176 : decode cX8_load 176 = .ok (.getfield 20, 3) := by decide +kernel
theorem dX8_load_179 : decode cX8_load 179 = .ok (.aload_n 0, 1) := by decide +kernel
theorem dX8_load_180 : decode cX8_load 180 = .ok (.getfield 17, 3) := by decide +kernel
theorem dX8_load_183 : decode cX8_load 183 = .ok (.invokestatic 232, 3) := by decide +kernel
theorem dX8_load_186 : decode cX8_load 186 = .ok (.aload_n 0, 1) := by decide +kernel
theorem dX8_load_187 : decode cX8_load 187 = .ok (.getfield 17, 3) := by decide +kernel
theorem dX8_load_190 : decode cX8_load 190 = .ok (.iconst 4, 1) := by decide +kernel
theorem dX8_load_191 : decode cX8_load 191 = .ok (.iaload, 1) := by decide +kernel
theorem dX8_load_192 : decode cX8_load 192 = .ok (.ireturn, 1) := by decide +kernel
theorem dX8_errorOffset_0 : decode cX8_errorOffset 0 = .ok (.aload_n 0, 1) := by decide +kernel
theorem dX8_errorOffset_1 : decode cX8_errorOffset 1 = .ok (.iconst 0, 1) := by decide +kernel
theorem dX8_errorOffset_2 : decode cX8_errorOffset 2 = .ok (.putfield 31, 3) := by decide +kernel
theorem dX8_errorOffset_5 : decode cX8_errorOffset 5 = .ok (.aload_n 0, 1) := by decide +kernel
theorem dX8_errorOffset_6 : decode cX8_errorOffset 6 = .ok (.getfield 13, 3) := by decide +kernel
theorem dX8_errorOffset_9 : decode cX8_errorOffset 9 = .ok (.ireturn, 1) := by decide +kernel
theorem dX8_open_0 : decode cX8_open 0 = .ok (.iconst 0, 1) := by decide +kernel
theorem dX8_open_1 : decode cX8_open 1 = .ok (.istore_n 1, 1) := by decide +kernel
theorem dX8_open_2 : decode cX8_open 2 = .ok (.iconst 0, 1) := by decide +kernel
theorem dX8_open_3 : decode cX8_open 3 = .ok (.istore_n 2, 1) := by decide +kernel
theorem dX8_open_4 : decode cX8_open 4 = .ok (.iload_n 2, 1) := by decide +kernel
theorem dX8_open_5 : decode cX8_open 5 = .ok (.aload_n 0, 1) := by decide +kernel
theorem dX8_open_6 : decode cX8_open 6 = .ok (.getfield 17, 3) := by decide +kernel
theorem dX8_open_9 : decode cX8_open 9 = .ok (.iconst 4, 1) := by decide +kernel
theorem dX8_open_10 : decode cX8_open 10 = .ok (.iaload, 1) := by decide +kernel
theorem dX8_open_11 : decode cX8_open 11 = .ok (.if_icmp .ge 30, 3) := by decide +kernel
theorem dX8_open_14 : decode cX8_open 14 = .ok (.iload_n 1, 1) := by decide +kernel
theorem dX8_open_15 : decode cX8_open 15 = .ok (.aload_n 0, 1) := by decide +kernel
theorem dX8_open_16 : decode cX8_open 16 = .ok (.getfield 17, 3) := by decide +kernel
theorem dX8_open_19 : decode cX8_open 19 = .ok (.iload_n 2, 1) := by decide +kernel
theorem dX8_open_20 : decode cX8_open 20 = .ok (.iconst 1, 1) := by decide +kernel
theorem dX8_open_21 : decode cX8_open 21 = .ok (.invokestatic 34, 3) := by decide +kernel
theorem dX8_open_24 : decode cX8_open 24 = .ok (.iaload, 1) := by decide +kernel
theorem dX8_open_25 : decode cX8_open 25 = .ok (.ifCond .le 7, 3) := by decide +kernel
theorem dX8_open_28 : decode cX8_open 28 = .ok (.iconst 1, 1) := by decide +kernel
theorem dX8_open_29 : decode cX8_open 29 = .ok (.goto 4, 3) := by decide +kernel
theorem dX8_open_32 : decode cX8_open 32 = .ok (.iconst 0, 1) := by decide +kernel
theorem dX8_open_33 : decode cX8_open 33 = .ok (.iadd, 1) := by decide +kernel
theorem dX8_open_34 : decode cX8_open 34 = .ok (.istore_n 1, 1) := by decide +kernel
theorem dX8_open_35 : decode cX8_open 35 = .ok (.iinc 2 1, 3) := by decide +kernel
theorem dX8_open_38 : decode cX8_open 38 = .ok (.goto (-34), 3) := by decide +kernel
theorem dX8_open_41 : decode cX8_open 41 = .ok (.iload_n 1, 1) := by decide +kernel
theorem dX8_open_42 : decode cX8_open 42 = .ok (.ireturn, 1) := by decide +kernel
theorem dX8_told_0 : decode cX8_told 0 = .ok (.iload_n 1, 1) := by decide +kernel
theorem dX8_told_1 : decode cX8_told 1 = .ok (.tableswitch 168 0 15 #[79, 86, 93, 100, 107, 114, 121, 139, 155, 168, 168, 168, 168, 168, 168, 163], 79) := by decide +kernel
theorem dX8_told_80 : decode cX8_told 80 = .ok (.aload_n 0, 1) := by decide +kernel
theorem dX8_told_81 : decode cX8_told 81 = .ok (.getfield 17, 3) := by decide +kernel
theorem dX8_told_84 : decode cX8_told 84 = .ok (.iconst 4, 1) := by decide +kernel
theorem dX8_told_85 : decode cX8_told 85 = .ok (.iaload, 1) := by decide +kernel
theorem dX8_told_86 : decode cX8_told 86 = .ok (.ireturn, 1) := by decide +kernel
theorem dX8_told_87 : decode cX8_told 87 = .ok (.aload_n 0, 1) := by decide +kernel
theorem dX8_told_88 : decode cX8_told 88 = .ok (.getfield 17, 3) := by decide +kernel
theorem dX8_told_91 : decode cX8_told 91 = .ok (.iconst 5, 1) := by decide +kernel
theorem dX8_told_92 : decode cX8_told 92 = .ok (.iaload, 1) := by decide +kernel
theorem dX8_told_93 : decode cX8_told 93 = .ok (.ireturn, 1) := by decide +kernel
theorem dX8_told_94 : decode cX8_told 94 = .ok (.aload_n 0, 1) := by decide +kernel
theorem dX8_told_95 : decode cX8_told 95 = .ok (.getfield 17, 3) := by decide +kernel
theorem dX8_told_98 : decode cX8_told 98 = .ok (.iconst 0, 1) := by decide +kernel
theorem dX8_told_99 : decode cX8_told 99 = .ok (.iaload, 1) := by decide +kernel
theorem dX8_told_100 : decode cX8_told 100 = .ok (.ireturn, 1) := by decide +kernel
theorem dX8_told_101 : decode cX8_told 101 = .ok (.aload_n 0, 1) := by decide +kernel
theorem dX8_told_102 : decode cX8_told 102 = .ok (.getfield 17, 3) := by decide +kernel
theorem dX8_told_105 : decode cX8_told 105 = .ok (.iconst 1, 1) := by decide +kernel
theorem dX8_told_106 : decode cX8_told 106 = .ok (.iaload, 1) := by decide +kernel
theorem dX8_told_107 : decode cX8_told 107 = .ok (.ireturn, 1) := by decide +kernel
theorem dX8_told_108 : decode cX8_told 108 = .ok (.aload_n 0, 1) := by decide +kernel
theorem dX8_told_109 : decode cX8_told 109 = .ok (.getfield 17, 3) := by decide +kernel
theorem dX8_told_112 : decode cX8_told 112 = .ok (.iconst 2, 1) := by decide +kernel
theorem dX8_told_113 : decode cX8_told 113 = .ok (.iaload, 1) := by decide +kernel
theorem dX8_told_114 : decode cX8_told 114 = .ok (.ireturn, 1) := by decide +kernel
theorem dX8_told_115 : decode cX8_told 115 = .ok (.aload_n 0, 1) := by decide +kernel
theorem dX8_told_116 : decode cX8_told 116 = .ok (.getfield 17, 3) := by decide +kernel
theorem dX8_told_119 : decode cX8_told 119 = .ok (.iconst 3, 1) := by decide +kernel
theorem dX8_told_120 : decode cX8_told 120 = .ok (.iaload, 1) := by decide +kernel
theorem dX8_told_121 : decode cX8_told 121 = .ok (.ireturn, 1) := by decide +kernel
theorem dX8_told_122 : decode cX8_told 122 = .ok (.aload_n 0, 1) := by decide +kernel
theorem dX8_told_123 : decode cX8_told 123 = .ok (.getfield 17, 3) := by decide +kernel
theorem dX8_told_126 : decode cX8_told 126 = .ok (.iconst 0, 1) := by decide +kernel
theorem dX8_told_127 : decode cX8_told 127 = .ok (.invokestatic 53, 3) := by decide +kernel
theorem dX8_told_130 : decode cX8_told 130 = .ok (.aload_n 0, 1) := by decide +kernel
theorem dX8_told_131 : decode cX8_told 131 = .ok (.getfield 17, 3) := by decide +kernel
theorem dX8_told_134 : decode cX8_told 134 = .ok (.iconst 1, 1) := by decide +kernel
theorem dX8_told_135 : decode cX8_told 135 = .ok (.invokestatic 53, 3) := by decide +kernel
theorem dX8_told_138 : decode cX8_told 138 = .ok (.iadd, 1) := by decide +kernel
theorem dX8_told_139 : decode cX8_told 139 = .ok (.ireturn, 1) := by decide +kernel
theorem dX8_told_140 : decode cX8_told 140 = .ok (.aload_n 0, 1) := by decide +kernel
theorem dX8_told_141 : decode cX8_told 141 = .ok (.getfield 17, 3) := by decide +kernel
theorem dX8_told_144 : decode cX8_told 144 = .ok (.invokestatic 84, 3) := by decide +kernel
theorem dX8_told_147 : decode cX8_told 147 = .ok (.ifCond .eq 7, 3) := by decide +kernel
theorem dX8_told_150 : decode cX8_told 150 = .ok (.iconst 1, 1) := by decide +kernel
theorem dX8_told_151 : decode cX8_told 151 = .ok (.goto 4, 3) := by decide +kernel
theorem dX8_told_154 : decode cX8_told 154 = .ok (.iconst 0, 1) := by decide +kernel
theorem dX8_told_155 : decode cX8_told 155 = .ok (.ireturn, 1) := by decide +kernel
theorem dX8_told_156 : decode cX8_told 156 = .ok (.aload_n 0, 1) := by decide +kernel
theorem dX8_told_157 : decode cX8_told 157 = .ok (.getfield 17, 3) := by decide +kernel
theorem dX8_told_160 : decode cX8_told 160 = .ok (.invokestatic 64, 3) := by decide +kernel
theorem dX8_told_163 : decode cX8_told 163 = .ok (.ireturn, 1) := by decide +kernel
theorem dX8_told_164 : decode cX8_told 164 = .ok (.aload_n 0, 1) := by decide +kernel
theorem dX8_told_165 : decode cX8_told 165 = .ok (.invokevirtual 236, 3) := by decide +kernel
theorem dX8_told_168 : decode cX8_told 168 = .ok (.ireturn, 1) := by decide +kernel
theorem dX8_told_169 : decode cX8_told 169 = .ok (.aload_n 0, 1) := by decide +kernel
theorem dX8_told_170 : decode cX8_told 170 = .ok (.getfield 17, 3) := by decide +kernel
theorem dX8_told_173 : decode cX8_told 173 = .ok (.bipush 9, 2) := by decide +kernel
theorem dX8_told_175 : decode cX8_told 175 = .ok (.iload_n 1, 1) := by decide +kernel
theorem dX8_told_176 : decode cX8_told 176 = .ok (.iadd, 1) := by decide +kernel
theorem dX8_told_177 : decode cX8_told 177 = .ok (.bipush 9, 2) := by decide +kernel
theorem dX8_told_179 : decode cX8_told 179 = .ok (.isub, 1) := by decide +kernel
theorem dX8_told_180 : decode cX8_told 180 = .ok (.iaload, 1) := by decide +kernel
theorem dX8_told_181 : decode cX8_told 181 = .ok (.ireturn, 1) := by decide +kernel
theorem dX8_state_0 : decode cX8_state 0 = .ok (.aload_n 0, 1) := by decide +kernel
theorem dX8_state_1 : decode cX8_state 1 = .ok (.iconst 0, 1) := by decide +kernel
theorem dX8_state_2 : decode cX8_state 2 = .ok (.putfield 31, 3) := by decide +kernel
theorem dX8_state_5 : decode cX8_state 5 = .ok (.aload_n 0, 1) := by decide +kernel
theorem dX8_state_6 : decode cX8_state 6 = .ok (.iload_n 1, 1) := by decide +kernel
theorem dX8_state_7 : decode cX8_state 7 = .ok (.iconst 0, 1) := by decide +kernel
theorem dX8_state_8 : decode cX8_state 8 = .ok (.bipush 15, 2) := by decide +kernel
theorem dX8_state_10 : decode cX8_state 10 = .ok (.invokestatic 117, 3) := by decide +kernel
theorem dX8_state_13 : decode cX8_state 13 = .ok (.ifCond .ne 7, 3) := by decide +kernel
theorem dX8_state_16 : decode cX8_state 16 = .ok (.iconst 1, 1) := by decide +kernel
theorem dX8_state_17 : decode cX8_state 17 = .ok (.goto 4, 3) := by decide +kernel
theorem dX8_state_20 : decode cX8_state 20 = .ok (.iconst 0, 1) := by decide +kernel
theorem dX8_state_21 : decode cX8_state 21 = .ok (.iconst 1, 1) := by decide +kernel
theorem dX8_state_22 : decode cX8_state 22 = .ok (.invokevirtual 220, 3) := by decide +kernel
theorem dX8_state_25 : decode cX8_state 25 = .ok (.ifCond .eq 7, 3) := by decide +kernel
theorem dX8_state_28 : decode cX8_state 28 = .ok (.iconst 0, 1) := by decide +kernel
theorem dX8_state_29 : decode cX8_state 29 = .ok (.goto 8, 3) := by decide +kernel
theorem dX8_state_32 : decode cX8_state 32 = .ok (.aload_n 0, 1) := by decide +kernel
theorem dX8_state_33 : decode cX8_state 33 = .ok (.iload_n 1, 1) := by decide +kernel
theorem dX8_state_34 : decode cX8_state 34 = .ok (.invokevirtual 239, 3) := by decide +kernel
theorem dX8_state_37 : decode cX8_state 37 = .ok (.ireturn, 1) := by decide +kernel
theorem dX8_find_0 : decode cX8_find 0 = .ok (.aload_n 0, 1) := by decide +kernel
theorem dX8_find_1 : decode cX8_find 1 = .ok (.iconst 0, 1) := by decide +kernel
theorem dX8_find_2 : decode cX8_find 2 = .ok (.putfield 31, 3) := by decide +kernel
theorem dX8_find_5 : decode cX8_find 5 = .ok (.aload_n 0, 1) := by decide +kernel
theorem dX8_find_6 : decode cX8_find 6 = .ok (.iload_n 1, 1) := by decide +kernel
theorem dX8_find_7 : decode cX8_find 7 = .ok (.iconst 0, 1) := by decide +kernel
theorem dX8_find_8 : decode cX8_find 8 = .ok (.aload_n 0, 1) := by decide +kernel
theorem dX8_find_9 : decode cX8_find 9 = .ok (.getfield 98, 3) := by decide +kernel
theorem dX8_find_12 : decode cX8_find 12 = .ok (.invokestatic 117, 3) := by decide +kernel
theorem dX8_find_15 : decode cX8_find 15 = .ok (.ifCond .ne 7, 3) := by decide +kernel
theorem dX8_find_18 : decode cX8_find 18 = .ok (.iconst 1, 1) := by decide +kernel
theorem dX8_find_19 : decode cX8_find 19 = .ok (.goto 4, 3) := by decide +kernel
theorem dX8_find_22 : decode cX8_find 22 = .ok (.iconst 0, 1) := by decide +kernel
theorem dX8_find_23 : decode cX8_find 23 = .ok (.iconst 1, 1) := by decide +kernel
theorem dX8_find_24 : decode cX8_find 24 = .ok (.invokevirtual 220, 3) := by decide +kernel
theorem dX8_find_27 : decode cX8_find 27 = .ok (.ifCond .eq 5, 3) := by decide +kernel
theorem dX8_find_30 : decode cX8_find 30 = .ok (.iconst 0, 1) := by decide +kernel
theorem dX8_find_31 : decode cX8_find 31 = .ok (.ireturn, 1) := by decide +kernel
theorem dX8_find_32 : decode cX8_find 32 = .ok (.iconst 0, 1) := by decide +kernel
theorem dX8_find_33 : decode cX8_find 33 = .ok (.istore_n 2, 1) := by decide +kernel
theorem dX8_find_34 : decode cX8_find 34 = .ok (.iload_n 2, 1) := by decide +kernel
theorem dX8_find_35 : decode cX8_find 35 = .ok (.iload_n 1, 1) := by decide +kernel
theorem dX8_find_36 : decode cX8_find 36 = .ok (.if_icmp .ge 27, 3) := by decide +kernel
theorem dX8_find_39 : decode cX8_find 39 = .ok (.aload_n 0, 1) := by decide +kernel
theorem dX8_find_40 : decode cX8_find 40 = .ok (.getfield 9, 3) := by decide +kernel
theorem dX8_find_43 : decode cX8_find 43 = .ok (.iload_n 2, 1) := by decide +kernel
theorem dX8_find_44 : decode cX8_find 44 = .ok (.iaload, 1) := by decide +kernel
theorem dX8_find_45 : decode cX8_find 45 = .ok (.bipush 97, 2) := by decide +kernel
theorem dX8_find_47 : decode cX8_find 47 = .ok (.bipush 122, 2) := by decide +kernel
theorem dX8_find_49 : decode cX8_find 49 = .ok (.invokestatic 117, 3) := by decide +kernel
theorem dX8_find_52 : decode cX8_find 52 = .ok (.ifCond .ne 5, 3) := by decide +kernel
theorem dX8_find_55 : decode cX8_find 55 = .ok (.iconst (-1), 1) := by decide +kernel
theorem dX8_find_56 : decode cX8_find 56 = .ok (.ireturn, 1) := by decide +kernel
theorem dX8_find_57 : decode cX8_find 57 = .ok (.iinc 2 1, 3) := by decide +kernel
theorem dX8_find_60 : decode cX8_find 60 = .ok (.goto (-26), 3) := by decide +kernel
theorem dX8_find_63 : decode cX8_find 63 = .ok (.iload_n 1, 1) := by decide +kernel
theorem dX8_find_64 : decode cX8_find 64 = .ok (.iconst 1, 1) := by decide +kernel
theorem dX8_find_65 : decode cX8_find 65 = .ok (.bipush 6, 2) := by decide +kernel
theorem dX8_find_67 : decode cX8_find 67 = .ok (.invokestatic 117, 3) := by decide +kernel
theorem dX8_find_70 : decode cX8_find 70 = .ok (.ifCond .eq 16, 3) := by decide +kernel
theorem dX8_find_73 : decode cX8_find 73 = .ok (.aload_n 0, 1) := by decide +kernel
theorem dX8_find_74 : decode cX8_find 74 = .ok (.aload_n 0, 1) := by decide +kernel
theorem dX8_find_75 : decode cX8_find 75 = .ok (.getfield 17, 3) := by decide +kernel
theorem dX8_find_78 : decode cX8_find 78 = .ok (.iconst 0, 1) := by decide +kernel
theorem dX8_find_79 : decode cX8_find 79 = .ok (.iload_n 1, 1) := by decide +kernel
theorem dX8_find_80 : decode cX8_find 80 = .ok (.invokevirtual 159, 3) := by decide +kernel
theorem dX8_find_83 : decode cX8_find 83 = .ok (.goto 4, 3) := by decide +kernel
theorem dX8_find_86 : decode cX8_find 86 = .ok (.iconst (-1), 1) := by decide +kernel
theorem dX8_find_87 : decode cX8_find 87 = .ok (.ireturn, 1) := by decide +kernel
theorem dX8_noGate_0 : decode cX8_noGate 0 = .ok (.aload_n 0, 1) := by decide +kernel
theorem dX8_noGate_1 : decode cX8_noGate 1 = .ok (.iload_n 1, 1) := by decide +kernel
theorem dX8_noGate_2 : decode cX8_noGate 2 = .ok (.iconst 0, 1) := by decide +kernel
theorem dX8_noGate_3 : decode cX8_noGate 3 = .ok (.aload_n 0, 1) := by decide +kernel
theorem dX8_noGate_4 : decode cX8_noGate 4 = .ok (.getfield 17, 3) := by decide +kernel
theorem dX8_noGate_7 : decode cX8_noGate 7 = .ok (.iconst 4, 1) := by decide +kernel
theorem dX8_noGate_8 : decode cX8_noGate 8 = .ok (.iaload, 1) := by decide +kernel
theorem dX8_noGate_9 : decode cX8_noGate 9 = .ok (.iconst 1, 1) := by decide +kernel
theorem dX8_noGate_10 : decode cX8_noGate 10 = .ok (.isub, 1) := by decide +kernel
theorem dX8_noGate_11 : decode cX8_noGate 11 = .ok (.invokestatic 117, 3) := by decide +kernel
theorem dX8_noGate_14 : decode cX8_noGate 14 = .ok (.ifCond .ne 7, 3) := by decide +kernel
theorem dX8_noGate_17 : decode cX8_noGate 17 = .ok (.iconst 1, 1) := by decide +kernel
theorem dX8_noGate_18 : decode cX8_noGate 18 = .ok (.goto 4, 3) := by decide +kernel
theorem dX8_noGate_21 : decode cX8_noGate 21 = .ok (.iconst 0, 1) := by decide +kernel
theorem dX8_noGate_22 : decode cX8_noGate 22 = .ok (.iconst 1, 1) := by decide +kernel
theorem dX8_noGate_23 : decode cX8_noGate 23 = .ok (.invokevirtual 220, 3) := by decide +kernel
theorem dX8_noGate_26 : decode cX8_noGate 26 = .ok (.ireturn, 1) := by decide +kernel
theorem dX8_noCard_0 : decode cX8_noCard 0 = .ok (.aload_n 0, 1) := by decide +kernel
theorem dX8_noCard_1 : decode cX8_noCard 1 = .ok (.iload_n 1, 1) := by decide +kernel
theorem dX8_noCard_2 : decode cX8_noCard 2 = .ok (.iconst 0, 1) := by decide +kernel
theorem dX8_noCard_3 : decode cX8_noCard 3 = .ok (.aload_n 0, 1) := by decide +kernel
theorem dX8_noCard_4 : decode cX8_noCard 4 = .ok (.getfield 17, 3) := by decide +kernel
theorem dX8_noCard_7 : decode cX8_noCard 7 = .ok (.iconst 5, 1) := by decide +kernel
theorem dX8_noCard_8 : decode cX8_noCard 8 = .ok (.iaload, 1) := by decide +kernel
theorem dX8_noCard_9 : decode cX8_noCard 9 = .ok (.iconst 1, 1) := by decide +kernel
theorem dX8_noCard_10 : decode cX8_noCard 10 = .ok (.isub, 1) := by decide +kernel
theorem dX8_noCard_11 : decode cX8_noCard 11 = .ok (.invokestatic 117, 3) := by decide +kernel
theorem dX8_noCard_14 : decode cX8_noCard 14 = .ok (.ifCond .ne 7, 3) := by decide +kernel
theorem dX8_noCard_17 : decode cX8_noCard 17 = .ok (.iconst 1, 1) := by decide +kernel
theorem dX8_noCard_18 : decode cX8_noCard 18 = .ok (.goto 4, 3) := by decide +kernel
theorem dX8_noCard_21 : decode cX8_noCard 21 = .ok (.iconst 0, 1) := by decide +kernel
theorem dX8_noCard_22 : decode cX8_noCard 22 = .ok (.iconst 1, 1) := by decide +kernel
theorem dX8_noCard_23 : decode cX8_noCard 23 = .ok (.invokevirtual 220, 3) := by decide +kernel
theorem dX8_noCard_26 : decode cX8_noCard 26 = .ok (.ireturn, 1) := by decide +kernel
theorem dX8_noSide_0 : decode cX8_noSide 0 = .ok (.aload_n 0, 1) := by decide +kernel
theorem dX8_noSide_1 : decode cX8_noSide 1 = .ok (.iload_n 1, 1) := by decide +kernel
theorem dX8_noSide_2 : decode cX8_noSide 2 = .ok (.iconst 0, 1) := by decide +kernel
theorem dX8_noSide_3 : decode cX8_noSide 3 = .ok (.iconst 1, 1) := by decide +kernel
theorem dX8_noSide_4 : decode cX8_noSide 4 = .ok (.invokestatic 117, 3) := by decide +kernel
theorem dX8_noSide_7 : decode cX8_noSide 7 = .ok (.ifCond .ne 7, 3) := by decide +kernel
theorem dX8_noSide_10 : decode cX8_noSide 10 = .ok (.iconst 1, 1) := by decide +kernel
theorem dX8_noSide_11 : decode cX8_noSide 11 = .ok (.goto 4, 3) := by decide +kernel
theorem dX8_noSide_14 : decode cX8_noSide 14 = .ok (.iconst 0, 1) := by decide +kernel
theorem dX8_noSide_15 : decode cX8_noSide 15 = .ok (.iload_n 2, 1) := by decide +kernel
theorem dX8_noSide_16 : decode cX8_noSide 16 = .ok (.invokevirtual 220, 3) := by decide +kernel
theorem dX8_noSide_19 : decode cX8_noSide 19 = .ok (.ireturn, 1) := by decide +kernel
theorem dX8_ofGate_0 : decode cX8_ofGate 0 = .ok (.iload_n 2, 1) := by decide +kernel
theorem dX8_ofGate_1 : decode cX8_ofGate 1 = .ok (.tableswitch 127 0 7 #[47, 58, 69, 82, 93, 93, 105, 116], 47) := by decide +kernel
theorem dX8_ofGate_48 : decode cX8_ofGate 48 = .ok (.aload_n 0, 1) := by decide +kernel
theorem dX8_ofGate_49 : decode cX8_ofGate 49 = .ok (.getfield 17, 3) := by decide +kernel
theorem dX8_ofGate_52 : decode cX8_ofGate 52 = .ok (.iload_n 1, 1) := by decide +kernel
theorem dX8_ofGate_53 : decode cX8_ofGate 53 = .ok (.iconst 0, 1) := by decide +kernel
theorem dX8_ofGate_54 : decode cX8_ofGate 54 = .ok (.invokestatic 34, 3) := by decide +kernel
theorem dX8_ofGate_57 : decode cX8_ofGate 57 = .ok (.iaload, 1) := by decide +kernel
theorem dX8_ofGate_58 : decode cX8_ofGate 58 = .ok (.ireturn, 1) := by decide +kernel
theorem dX8_ofGate_59 : decode cX8_ofGate 59 = .ok (.aload_n 0, 1) := by decide +kernel
theorem dX8_ofGate_60 : decode cX8_ofGate 60 = .ok (.getfield 17, 3) := by decide +kernel
theorem dX8_ofGate_63 : decode cX8_ofGate 63 = .ok (.iload_n 1, 1) := by decide +kernel
theorem dX8_ofGate_64 : decode cX8_ofGate 64 = .ok (.iconst 1, 1) := by decide +kernel
theorem dX8_ofGate_65 : decode cX8_ofGate 65 = .ok (.invokestatic 34, 3) := by decide +kernel
theorem dX8_ofGate_68 : decode cX8_ofGate 68 = .ok (.iaload, 1) := by decide +kernel
theorem dX8_ofGate_69 : decode cX8_ofGate 69 = .ok (.ireturn, 1) := by decide +kernel
theorem dX8_ofGate_70 : decode cX8_ofGate 70 = .ok (.aload_n 0, 1) := by decide +kernel
theorem dX8_ofGate_71 : decode cX8_ofGate 71 = .ok (.getfield 17, 3) := by decide +kernel
theorem dX8_ofGate_74 : decode cX8_ofGate 74 = .ok (.iload_n 1, 1) := by decide +kernel
theorem dX8_ofGate_75 : decode cX8_ofGate 75 = .ok (.iconst 2, 1) := by decide +kernel
theorem dX8_ofGate_76 : decode cX8_ofGate 76 = .ok (.invokestatic 34, 3) := by decide +kernel
theorem dX8_ofGate_79 : decode cX8_ofGate 79 = .ok (.iaload, 1) := by decide +kernel
theorem dX8_ofGate_80 : decode cX8_ofGate 80 = .ok (.iconst 1, 1) := by decide +kernel
theorem dX8_ofGate_81 : decode cX8_ofGate 81 = .ok (.isub, 1) := by decide +kernel
theorem dX8_ofGate_82 : decode cX8_ofGate 82 = .ok (.ireturn, 1) := by decide +kernel
theorem dX8_ofGate_83 : decode cX8_ofGate 83 = .ok (.aload_n 0, 1) := by decide +kernel
theorem dX8_ofGate_84 : decode cX8_ofGate 84 = .ok (.getfield 17, 3) := by decide +kernel
theorem dX8_ofGate_87 : decode cX8_ofGate 87 = .ok (.iload_n 1, 1) := by decide +kernel
theorem dX8_ofGate_88 : decode cX8_ofGate 88 = .ok (.iconst 3, 1) := by decide +kernel
theorem dX8_ofGate_89 : decode cX8_ofGate 89 = .ok (.invokestatic 34, 3) := by decide +kernel
theorem dX8_ofGate_92 : decode cX8_ofGate 92 = .ok (.iaload, 1) := by decide +kernel
theorem dX8_ofGate_93 : decode cX8_ofGate 93 = .ok (.ireturn, 1) := by decide +kernel
theorem dX8_ofGate_94 : decode cX8_ofGate 94 = .ok (.aload_n 0, 1) := by decide +kernel
theorem dX8_ofGate_95 : decode cX8_ofGate 95 = .ok (.getfield 17, 3) := by decide +kernel
theorem dX8_ofGate_98 : decode cX8_ofGate 98 = .ok (.iload_n 1, 1) := by decide +kernel
theorem dX8_ofGate_99 : decode cX8_ofGate 99 = .ok (.iload_n 2, 1) := by decide +kernel
theorem dX8_ofGate_100 : decode cX8_ofGate 100 = .ok (.iconst 4, 1) := by decide +kernel
theorem dX8_ofGate_101 : decode cX8_ofGate 101 = .ok (.isub, 1) := by decide +kernel
theorem dX8_ofGate_102 : decode cX8_ofGate 102 = .ok (.invokestatic 38, 3) := by decide +kernel
theorem dX8_ofGate_105 : decode cX8_ofGate 105 = .ok (.ireturn, 1) := by decide +kernel
theorem dX8_ofGate_106 : decode cX8_ofGate 106 = .ok (.aload_n 0, 1) := by decide +kernel
theorem dX8_ofGate_107 : decode cX8_ofGate 107 = .ok (.getfield 17, 3) := by decide +kernel
theorem dX8_ofGate_110 : decode cX8_ofGate 110 = .ok (.iload_n 1, 1) := by decide +kernel
theorem dX8_ofGate_111 : decode cX8_ofGate 111 = .ok (.iconst 4, 1) := by decide +kernel
theorem dX8_ofGate_112 : decode cX8_ofGate 112 = .ok (.invokestatic 34, 3) := by decide +kernel
theorem dX8_ofGate_115 : decode cX8_ofGate 115 = .ok (.iaload, 1) := by decide +kernel
theorem dX8_ofGate_116 : decode cX8_ofGate 116 = .ok (.ireturn, 1) := by decide +kernel
theorem dX8_ofGate_117 : decode cX8_ofGate 117 = .ok (.aload_n 0, 1) := by decide +kernel
theorem dX8_ofGate_118 : decode cX8_ofGate 118 = .ok (.getfield 17, 3) := by decide +kernel
theorem dX8_ofGate_121 : decode cX8_ofGate 121 = .ok (.iload_n 1, 1) := by decide +kernel
theorem dX8_ofGate_122 : decode cX8_ofGate 122 = .ok (.iconst 5, 1) := by decide +kernel
theorem dX8_ofGate_123 : decode cX8_ofGate 123 = .ok (.invokestatic 34, 3) := by decide +kernel
theorem dX8_ofGate_126 : decode cX8_ofGate 126 = .ok (.iaload, 1) := by decide +kernel
theorem dX8_ofGate_127 : decode cX8_ofGate 127 = .ok (.ireturn, 1) := by decide +kernel
theorem dX8_ofGate_128 : decode cX8_ofGate 128 = .ok (.aload_n 0, 1) := by decide +kernel
theorem dX8_ofGate_129 : decode cX8_ofGate 129 = .ok (.getfield 17, 3) := by decide +kernel
theorem dX8_ofGate_132 : decode cX8_ofGate 132 = .ok (.iload_n 1, 1) := by decide +kernel
theorem dX8_ofGate_133 : decode cX8_ofGate 133 = .ok (.bipush 6, 2) := by decide +kernel
theorem dX8_ofGate_135 : decode cX8_ofGate 135 = .ok (.invokestatic 34, 3) := by decide +kernel
theorem dX8_ofGate_138 : decode cX8_ofGate 138 = .ok (.iaload, 1) := by decide +kernel
theorem dX8_ofGate_139 : decode cX8_ofGate 139 = .ok (.iconst 1, 1) := by decide +kernel
theorem dX8_ofGate_140 : decode cX8_ofGate 140 = .ok (.isub, 1) := by decide +kernel
theorem dX8_ofGate_141 : decode cX8_ofGate 141 = .ok (.ireturn, 1) := by decide +kernel
theorem dX8_gate_0 : decode cX8_gate 0 = .ok (.aload_n 0, 1) := by decide +kernel
theorem dX8_gate_1 : decode cX8_gate 1 = .ok (.iconst 0, 1) := by decide +kernel
theorem dX8_gate_2 : decode cX8_gate 2 = .ok (.putfield 31, 3) := by decide +kernel
theorem dX8_gate_5 : decode cX8_gate 5 = .ok (.aload_n 0, 1) := by decide +kernel
theorem dX8_gate_6 : decode cX8_gate 6 = .ok (.iload_n 1, 1) := by decide +kernel
theorem dX8_gate_7 : decode cX8_gate 7 = .ok (.invokevirtual 242, 3) := by decide +kernel
theorem dX8_gate_10 : decode cX8_gate 10 = .ok (.ifCond .ne 26, 3) := by decide +kernel
theorem dX8_gate_13 : decode cX8_gate 13 = .ok (.aload_n 0, 1) := by decide +kernel
theorem dX8_gate_14 : decode cX8_gate 14 = .ok (.iload_n 2, 1) := by decide +kernel
theorem dX8_gate_15 : decode cX8_gate 15 = .ok (.iconst 0, 1) := by decide +kernel
theorem dX8_gate_16 : decode cX8_gate 16 = .ok (.bipush 8, 2) := by decide +kernel
theorem dX8_gate_18 : decode cX8_gate 18 = .ok (.invokestatic 117, 3) := by decide +kernel
theorem dX8_gate_21 : decode cX8_gate 21 = .ok (.ifCond .ne 7, 3) := by decide +kernel
theorem dX8_gate_24 : decode cX8_gate 24 = .ok (.iconst 1, 1) := by decide +kernel
theorem dX8_gate_25 : decode cX8_gate 25 = .ok (.goto 4, 3) := by decide +kernel
theorem dX8_gate_28 : decode cX8_gate 28 = .ok (.iconst 0, 1) := by decide +kernel
theorem dX8_gate_29 : decode cX8_gate 29 = .ok (.iconst 2, 1) := by decide +kernel
theorem dX8_gate_30 : decode cX8_gate 30 = .ok (.invokevirtual 220, 3) := by decide +kernel
theorem dX8_gate_33 : decode cX8_gate 33 = .ok (.ifCond .eq 7, 3) := by decide +kernel
theorem dX8_gate_36 : decode cX8_gate 36 = .ok (.iconst 0, 1) := by decide +kernel
theorem dX8_gate_37 : decode cX8_gate 37 = .ok (.goto 9, 3) := by decide +kernel
theorem dX8_gate_40 : decode cX8_gate 40 = .ok (.aload_n 0, 1) := by decide +kernel
theorem dX8_gate_41 : decode cX8_gate 41 = .ok (.iload_n 1, 1) := by decide +kernel
theorem dX8_gate_42 : decode cX8_gate 42 = .ok (.iload_n 2, 1) := by decide +kernel
theorem dX8_gate_43 : decode cX8_gate 43 = .ok (.invokevirtual 245, 3) := by decide +kernel
theorem dX8_gate_46 : decode cX8_gate 46 = .ok (.ireturn, 1) := by decide +kernel
theorem dX8_ofCard_0 : decode cX8_ofCard 0 = .ok (.iload_n 2, 1) := by decide +kernel
theorem dX8_ofCard_1 : decode cX8_ofCard 1 = .ok (.iconst 3, 1) := by decide +kernel
theorem dX8_ofCard_2 : decode cX8_ofCard 2 = .ok (.if_icmp .ge 16, 3) := by decide +kernel
theorem dX8_ofCard_5 : decode cX8_ofCard 5 = .ok (.aload_n 0, 1) := by decide +kernel
theorem dX8_ofCard_6 : decode cX8_ofCard 6 = .ok (.getfield 17, 3) := by decide +kernel
theorem dX8_ofCard_9 : decode cX8_ofCard 9 = .ok (.iload_n 1, 1) := by decide +kernel
theorem dX8_ofCard_10 : decode cX8_ofCard 10 = .ok (.iload_n 2, 1) := by decide +kernel
theorem dX8_ofCard_11 : decode cX8_ofCard 11 = .ok (.invokestatic 61, 3) := by decide +kernel
theorem dX8_ofCard_14 : decode cX8_ofCard 14 = .ok (.iaload, 1) := by decide +kernel
theorem dX8_ofCard_15 : decode cX8_ofCard 15 = .ok (.goto 31, 3) := by decide +kernel
theorem dX8_ofCard_18 : decode cX8_ofCard 18 = .ok (.iload_n 2, 1) := by decide +kernel
theorem dX8_ofCard_19 : decode cX8_ofCard 19 = .ok (.bipush 6, 2) := by decide +kernel
theorem dX8_ofCard_21 : decode cX8_ofCard 21 = .ok (.if_icmp .ne 16, 3) := by decide +kernel
theorem dX8_ofCard_24 : decode cX8_ofCard 24 = .ok (.aload_n 0, 1) := by decide +kernel
theorem dX8_ofCard_25 : decode cX8_ofCard 25 = .ok (.getfield 17, 3) := by decide +kernel
theorem dX8_ofCard_28 : decode cX8_ofCard 28 = .ok (.iload_n 1, 1) := by decide +kernel
theorem dX8_ofCard_29 : decode cX8_ofCard 29 = .ok (.iconst 3, 1) := by decide +kernel
theorem dX8_ofCard_30 : decode cX8_ofCard 30 = .ok (.invokestatic 61, 3) := by decide +kernel
theorem dX8_ofCard_33 : decode cX8_ofCard 33 = .ok (.iaload, 1) := by decide +kernel
theorem dX8_ofCard_34 : decode cX8_ofCard 34 = .ok (.goto 12, 3) := by decide +kernel
theorem dX8_ofCard_37 : decode cX8_ofCard 37 = .ok (.aload_n 0, 1) := by decide +kernel
theorem dX8_ofCard_38 : decode cX8_ofCard 38 = .ok (.getfield 17, 3) := by decide +kernel
theorem dX8_ofCard_41 : decode cX8_ofCard 41 = .ok (.iload_n 1, 1) := by decide +kernel
theorem dX8_ofCard_42 : decode cX8_ofCard 42 = .ok (.iload_n 2, 1) := by decide +kernel
theorem dX8_ofCard_43 : decode cX8_ofCard 43 = .ok (.invokestatic 50, 3) := by decide +kernel
theorem dX8_ofCard_46 : decode cX8_ofCard 46 = .ok (.ireturn, 1) := by decide +kernel
theorem dX8_card_0 : decode cX8_card 0 = .ok (.aload_n 0, 1) := by decide +kernel
theorem dX8_card_1 : decode cX8_card 1 = .ok (.iconst 0, 1) := by decide +kernel
theorem dX8_card_2 : decode cX8_card 2 = .ok (.putfield 31, 3) := by decide +kernel
theorem dX8_card_5 : decode cX8_card 5 = .ok (.aload_n 0, 1) := by decide +kernel
theorem dX8_card_6 : decode cX8_card 6 = .ok (.iload_n 1, 1) := by decide +kernel
theorem dX8_card_7 : decode cX8_card 7 = .ok (.invokevirtual 248, 3) := by decide +kernel
theorem dX8_card_10 : decode cX8_card 10 = .ok (.ifCond .ne 26, 3) := by decide +kernel
theorem dX8_card_13 : decode cX8_card 13 = .ok (.aload_n 0, 1) := by decide +kernel
theorem dX8_card_14 : decode cX8_card 14 = .ok (.iload_n 2, 1) := by decide +kernel
theorem dX8_card_15 : decode cX8_card 15 = .ok (.iconst 0, 1) := by decide +kernel
theorem dX8_card_16 : decode cX8_card 16 = .ok (.bipush 6, 2) := by decide +kernel
theorem dX8_card_18 : decode cX8_card 18 = .ok (.invokestatic 117, 3) := by decide +kernel
theorem dX8_card_21 : decode cX8_card 21 = .ok (.ifCond .ne 7, 3) := by decide +kernel
theorem dX8_card_24 : decode cX8_card 24 = .ok (.iconst 1, 1) := by decide +kernel
theorem dX8_card_25 : decode cX8_card 25 = .ok (.goto 4, 3) := by decide +kernel
theorem dX8_card_28 : decode cX8_card 28 = .ok (.iconst 0, 1) := by decide +kernel
theorem dX8_card_29 : decode cX8_card 29 = .ok (.iconst 2, 1) := by decide +kernel
theorem dX8_card_30 : decode cX8_card 30 = .ok (.invokevirtual 220, 3) := by decide +kernel
theorem dX8_card_33 : decode cX8_card 33 = .ok (.ifCond .eq 7, 3) := by decide +kernel
theorem dX8_card_36 : decode cX8_card 36 = .ok (.iconst 0, 1) := by decide +kernel
theorem dX8_card_37 : decode cX8_card 37 = .ok (.goto 9, 3) := by decide +kernel
theorem dX8_card_40 : decode cX8_card 40 = .ok (.aload_n 0, 1) := by decide +kernel
theorem dX8_card_41 : decode cX8_card 41 = .ok (.iload_n 1, 1) := by decide +kernel
theorem dX8_card_42 : decode cX8_card 42 = .ok (.iload_n 2, 1) := by decide +kernel
theorem dX8_card_43 : decode cX8_card 43 = .ok (.invokevirtual 251, 3) := by decide +kernel
theorem dX8_card_46 : decode cX8_card 46 = .ok (.ireturn, 1) := by decide +kernel
theorem dX8_inLine_0 : decode cX8_inLine 0 = .ok (.aload_n 0, 1) := by decide +kernel
theorem dX8_inLine_1 : decode cX8_inLine 1 = .ok (.iconst 0, 1) := by decide +kernel
theorem dX8_inLine_2 : decode cX8_inLine 2 = .ok (.putfield 31, 3) := by decide +kernel
theorem dX8_inLine_5 : decode cX8_inLine 5 = .ok (.aload_n 0, 1) := by decide +kernel
theorem dX8_inLine_6 : decode cX8_inLine 6 = .ok (.iload_n 1, 1) := by decide +kernel
theorem dX8_inLine_7 : decode cX8_inLine 7 = .ok (.invokevirtual 242, 3) := by decide +kernel
theorem dX8_inLine_10 : decode cX8_inLine 10 = .ok (.ifCond .ne 44, 3) := by decide +kernel
theorem dX8_inLine_13 : decode cX8_inLine 13 = .ok (.aload_n 0, 1) := by decide +kernel
theorem dX8_inLine_14 : decode cX8_inLine 14 = .ok (.iload_n 2, 1) := by decide +kernel
theorem dX8_inLine_15 : decode cX8_inLine 15 = .ok (.iconst 2, 1) := by decide +kernel
theorem dX8_inLine_16 : decode cX8_inLine 16 = .ok (.invokevirtual 254, 3) := by decide +kernel
theorem dX8_inLine_19 : decode cX8_inLine 19 = .ok (.ifCond .ne 35, 3) := by decide +kernel
theorem dX8_inLine_22 : decode cX8_inLine 22 = .ok (.aload_n 0, 1) := by decide +kernel
theorem dX8_inLine_23 : decode cX8_inLine 23 = .ok (.iload_n 3, 1) := by decide +kernel
theorem dX8_inLine_24 : decode cX8_inLine 24 = .ok (.iconst 0, 1) := by decide +kernel
theorem dX8_inLine_25 : decode cX8_inLine 25 = .ok (.aload_n 0, 1) := by decide +kernel
theorem dX8_inLine_26 : decode cX8_inLine 26 = .ok (.getfield 17, 3) := by decide +kernel
theorem dX8_inLine_29 : decode cX8_inLine 29 = .ok (.iload_n 1, 1) := by decide +kernel
theorem dX8_inLine_30 : decode cX8_inLine 30 = .ok (.iload_n 2, 1) := by decide +kernel
theorem dX8_inLine_31 : decode cX8_inLine 31 = .ok (.invokestatic 38, 3) := by decide +kernel
theorem dX8_inLine_34 : decode cX8_inLine 34 = .ok (.iconst 1, 1) := by decide +kernel
theorem dX8_inLine_35 : decode cX8_inLine 35 = .ok (.isub, 1) := by decide +kernel
theorem dX8_inLine_36 : decode cX8_inLine 36 = .ok (.invokestatic 117, 3) := by decide +kernel
theorem dX8_inLine_39 : decode cX8_inLine 39 = .ok (.ifCond .ne 7, 3) := by decide +kernel
theorem dX8_inLine_42 : decode cX8_inLine 42 = .ok (.iconst 1, 1) := by decide +kernel
theorem dX8_inLine_43 : decode cX8_inLine 43 = .ok (.goto 4, 3) := by decide +kernel
theorem dX8_inLine_46 : decode cX8_inLine 46 = .ok (.iconst 0, 1) := by decide +kernel
theorem dX8_inLine_47 : decode cX8_inLine 47 = .ok (.iconst 3, 1) := by decide +kernel
theorem dX8_inLine_48 : decode cX8_inLine 48 = .ok (.invokevirtual 220, 3) := by decide +kernel
theorem dX8_inLine_51 : decode cX8_inLine 51 = .ok (.ifCond .eq 5, 3) := by decide +kernel
theorem dX8_inLine_54 : decode cX8_inLine 54 = .ok (.iconst 0, 1) := by decide +kernel
theorem dX8_inLine_55 : decode cX8_inLine 55 = .ok (.ireturn, 1) := by decide +kernel
theorem dX8_inLine_56 : decode cX8_inLine 56 = .ok (.aload_n 0, 1) := by decide +kernel
theorem dX8_inLine_57 : decode cX8_inLine 57 = .ok (.getfield 17, 3) := by decide +kernel
theorem dX8_inLine_60 : decode cX8_inLine 60 = .ok (.iload_n 1, 1) := by decide +kernel
theorem dX8_inLine_61 : decode cX8_inLine 61 = .ok (.iload_n 2, 1) := by decide +kernel
theorem dX8_inLine_62 : decode cX8_inLine 62 = .ok (.iload_n 3, 1) := by decide +kernel
theorem dX8_inLine_63 : decode cX8_inLine 63 = .ok (.invokestatic 42, 3) := by decide +kernel
theorem dX8_inLine_66 : decode cX8_inLine 66 = .ok (.iaload, 1) := by decide +kernel
theorem dX8_inLine_67 : decode cX8_inLine 67 = .ok (.iconst 1, 1) := by decide +kernel
theorem dX8_inLine_68 : decode cX8_inLine 68 = .ok (.isub, 1) := by decide +kernel
theorem dX8_inLine_69 : decode cX8_inLine 69 = .ok (.ireturn, 1) := by decide +kernel
theorem dX8_why_0 : decode cX8_why 0 = .ok (.aload_n 0, 1) := by decide +kernel
theorem dX8_why_1 : decode cX8_why 1 = .ok (.iconst 0, 1) := by decide +kernel
theorem dX8_why_2 : decode cX8_why 2 = .ok (.putfield 31, 3) := by decide +kernel
theorem dX8_why_5 : decode cX8_why 5 = .ok (.aload_n 0, 1) := by decide +kernel
theorem dX8_why_6 : decode cX8_why 6 = .ok (.iload_n 1, 1) := by decide +kernel
theorem dX8_why_7 : decode cX8_why 7 = .ok (.invokevirtual 248, 3) := by decide +kernel
theorem dX8_why_10 : decode cX8_why 10 = .ok (.ifCond .ne 12, 3) := by decide +kernel
theorem dX8_why_13 : decode cX8_why 13 = .ok (.aload_n 0, 1) := by decide +kernel
theorem dX8_why_14 : decode cX8_why 14 = .ok (.iload_n 2, 1) := by decide +kernel
theorem dX8_why_15 : decode cX8_why 15 = .ok (.iconst 2, 1) := by decide +kernel
theorem dX8_why_16 : decode cX8_why 16 = .ok (.invokevirtual 254, 3) := by decide +kernel
theorem dX8_why_19 : decode cX8_why 19 = .ok (.ifCond .eq 7, 3) := by decide +kernel
theorem dX8_why_22 : decode cX8_why 22 = .ok (.iconst 0, 1) := by decide +kernel
theorem dX8_why_23 : decode cX8_why 23 = .ok (.goto 12, 3) := by decide +kernel
theorem dX8_why_26 : decode cX8_why 26 = .ok (.aload_n 0, 1) := by decide +kernel
theorem dX8_why_27 : decode cX8_why 27 = .ok (.getfield 17, 3) := by decide +kernel
theorem dX8_why_30 : decode cX8_why 30 = .ok (.iload_n 1, 1) := by decide +kernel
theorem dX8_why_31 : decode cX8_why 31 = .ok (.iload_n 2, 1) := by decide +kernel
theorem dX8_why_32 : decode cX8_why 32 = .ok (.invokestatic 81, 3) := by decide +kernel
theorem dX8_why_35 : decode cX8_why 35 = .ok (.ireturn, 1) := by decide +kernel
theorem dX8_noJoin_0 : decode cX8_noJoin 0 = .ok (.aload_n 0, 1) := by decide +kernel
theorem dX8_noJoin_1 : decode cX8_noJoin 1 = .ok (.iload_n 1, 1) := by decide +kernel
theorem dX8_noJoin_2 : decode cX8_noJoin 2 = .ok (.invokevirtual 242, 3) := by decide +kernel
theorem dX8_noJoin_5 : decode cX8_noJoin 5 = .ok (.ifCond .ne 25, 3) := by decide +kernel
theorem dX8_noJoin_8 : decode cX8_noJoin 8 = .ok (.iload_n 3, 1) := by decide +kernel
theorem dX8_noJoin_9 : decode cX8_noJoin 9 = .ok (.iconst (-1), 1) := by decide +kernel
theorem dX8_noJoin_10 : decode cX8_noJoin 10 = .ok (.if_icmp .eq 11, 3) := by decide +kernel
theorem dX8_noJoin_13 : decode cX8_noJoin 13 = .ok (.aload_n 0, 1) := by decide +kernel
theorem dX8_noJoin_14 : decode cX8_noJoin 14 = .ok (.iload_n 3, 1) := by decide +kernel
theorem dX8_noJoin_15 : decode cX8_noJoin 15 = .ok (.invokevirtual 248, 3) := by decide +kernel
theorem dX8_noJoin_18 : decode cX8_noJoin 18 = .ok (.ifCond .ne 12, 3) := by decide +kernel
theorem dX8_noJoin_21 : decode cX8_noJoin 21 = .ok (.aload_n 0, 1) := by decide +kernel
theorem dX8_noJoin_22 : decode cX8_noJoin 22 = .ok (.iload_n 2, 1) := by decide +kernel
theorem dX8_noJoin_23 : decode cX8_noJoin 23 = .ok (.iconst 2, 1) := by decide +kernel
theorem dX8_noJoin_24 : decode cX8_noJoin 24 = .ok (.invokevirtual 254, 3) := by decide +kernel
theorem dX8_noJoin_27 : decode cX8_noJoin 27 = .ok (.ifCond .eq 7, 3) := by decide +kernel
theorem dX8_noJoin_30 : decode cX8_noJoin 30 = .ok (.iconst 1, 1) := by decide +kernel
theorem dX8_noJoin_31 : decode cX8_noJoin 31 = .ok (.goto 4, 3) := by decide +kernel
theorem dX8_noJoin_34 : decode cX8_noJoin 34 = .ok (.iconst 0, 1) := by decide +kernel
theorem dX8_noJoin_35 : decode cX8_noJoin 35 = .ok (.ireturn, 1) := by decide +kernel
theorem dX8_whyNotJoin_0 : decode cX8_whyNotJoin 0 = .ok (.aload_n 0, 1) := by decide +kernel
theorem dX8_whyNotJoin_1 : decode cX8_whyNotJoin 1 = .ok (.iconst 0, 1) := by decide +kernel
theorem dX8_whyNotJoin_2 : decode cX8_whyNotJoin 2 = .ok (.putfield 31, 3) := by decide +kernel
theorem dX8_whyNotJoin_5 : decode cX8_whyNotJoin 5 = .ok (.aload_n 0, 1) := by decide +kernel
theorem dX8_whyNotJoin_6 : decode cX8_whyNotJoin 6 = .ok (.iload_n 1, 1) := by decide +kernel
theorem dX8_whyNotJoin_7 : decode cX8_whyNotJoin 7 = .ok (.iload_n 2, 1) := by decide +kernel
theorem dX8_whyNotJoin_8 : decode cX8_whyNotJoin 8 = .ok (.iload_n 3, 1) := by decide +kernel
theorem dX8_whyNotJoin_9 : decode cX8_whyNotJoin 9 = .ok (.invokevirtual 257, 3) := by decide +kernel
theorem dX8_whyNotJoin_12 : decode cX8_whyNotJoin 12 = .ok (.ifCond .eq 7, 3) := by decide +kernel
theorem dX8_whyNotJoin_15 : decode cX8_whyNotJoin 15 = .ok (.iconst 0, 1) := by decide +kernel
theorem dX8_whyNotJoin_16 : decode cX8_whyNotJoin 16 = .ok (.goto 13, 3) := by decide +kernel
theorem dX8_whyNotJoin_19 : decode cX8_whyNotJoin 19 = .ok (.aload_n 0, 1) := by decide +kernel
theorem dX8_whyNotJoin_20 : decode cX8_whyNotJoin 20 = .ok (.getfield 17, 3) := by decide +kernel
theorem dX8_whyNotJoin_23 : decode cX8_whyNotJoin 23 = .ok (.iload_n 1, 1) := by decide +kernel
theorem dX8_whyNotJoin_24 : decode cX8_whyNotJoin 24 = .ok (.iload_n 2, 1) := by decide +kernel
theorem dX8_whyNotJoin_25 : decode cX8_whyNotJoin 25 = .ok (.iload_n 3, 1) := by decide +kernel
theorem dX8_whyNotJoin_26 : decode cX8_whyNotJoin 26 = .ok (.invokestatic 57, 3) := by decide +kernel
theorem dX8_whyNotJoin_29 : decode cX8_whyNotJoin 29 = .ok (.ireturn, 1) := by decide +kernel
theorem dX8_bestGate_0 : decode cX8_bestGate 0 = .ok (.aload_n 0, 1) := by decide +kernel
theorem dX8_bestGate_1 : decode cX8_bestGate 1 = .ok (.iconst 0, 1) := by decide +kernel
theorem dX8_bestGate_2 : decode cX8_bestGate 2 = .ok (.putfield 31, 3) := by decide +kernel
theorem dX8_bestGate_5 : decode cX8_bestGate 5 = .ok (.aload_n 0, 1) := by decide +kernel
theorem dX8_bestGate_6 : decode cX8_bestGate 6 = .ok (.iload_n 1, 1) := by decide +kernel
theorem dX8_bestGate_7 : decode cX8_bestGate 7 = .ok (.iconst 1, 1) := by decide +kernel
theorem dX8_bestGate_8 : decode cX8_bestGate 8 = .ok (.invokevirtual 254, 3) := by decide +kernel
theorem dX8_bestGate_11 : decode cX8_bestGate 11 = .ok (.ifCond .eq 5, 3) := by decide +kernel
theorem dX8_bestGate_14 : decode cX8_bestGate 14 = .ok (.iconst 0, 1) := by decide +kernel
theorem dX8_bestGate_15 : decode cX8_bestGate 15 = .ok (.ireturn, 1) := by decide +kernel
theorem dX8_bestGate_16 : decode cX8_bestGate 16 = .ok (.iconst (-1), 1) := by decide +kernel
theorem dX8_bestGate_17 : decode cX8_bestGate 17 = .ok (.istore_n 2, 1) := by decide +kernel
theorem dX8_bestGate_18 : decode cX8_bestGate 18 = .ok (.iconst 0, 1) := by decide +kernel
theorem dX8_bestGate_19 : decode cX8_bestGate 19 = .ok (.istore_n 3, 1) := by decide +kernel
theorem dX8_bestGate_20 : decode cX8_bestGate 20 = .ok (.iload_n 3, 1) := by decide +kernel
theorem dX8_bestGate_21 : decode cX8_bestGate 21 = .ok (.aload_n 0, 1) := by decide +kernel
theorem dX8_bestGate_22 : decode cX8_bestGate 22 = .ok (.getfield 17, 3) := by decide +kernel
theorem dX8_bestGate_25 : decode cX8_bestGate 25 = .ok (.iconst 4, 1) := by decide +kernel
theorem dX8_bestGate_26 : decode cX8_bestGate 26 = .ok (.iaload, 1) := by decide +kernel
theorem dX8_bestGate_27 : decode cX8_bestGate 27 = .ok (.if_icmp .ge 54, 3) := by decide +kernel
theorem dX8_bestGate_30 : decode cX8_bestGate 30 = .ok (.aload_n 0, 1) := by decide +kernel
theorem dX8_bestGate_31 : decode cX8_bestGate 31 = .ok (.getfield 17, 3) := by decide +kernel
theorem dX8_bestGate_34 : decode cX8_bestGate 34 = .ok (.iload_n 3, 1) := by decide +kernel
theorem dX8_bestGate_35 : decode cX8_bestGate 35 = .ok (.iconst 0, 1) := by decide +kernel
theorem dX8_bestGate_36 : decode cX8_bestGate 36 = .ok (.invokestatic 34, 3) := by decide +kernel
theorem dX8_bestGate_39 : decode cX8_bestGate 39 = .ok (.iaload, 1) := by decide +kernel
theorem dX8_bestGate_40 : decode cX8_bestGate 40 = .ok (.iload_n 1, 1) := by decide +kernel
theorem dX8_bestGate_41 : decode cX8_bestGate 41 = .ok (.invokestatic 46, 3) := by decide +kernel
theorem dX8_bestGate_44 : decode cX8_bestGate 44 = .ok (.ifCond .eq 31, 3) := by decide +kernel
theorem dX8_bestGate_47 : decode cX8_bestGate 47 = .ok (.iload_n 2, 1) := by decide +kernel
theorem dX8_bestGate_48 : decode cX8_bestGate 48 = .ok (.iconst (-1), 1) := by decide +kernel
theorem dX8_bestGate_49 : decode cX8_bestGate 49 = .ok (.if_icmp .eq 24, 3) := by decide +kernel
theorem dX8_bestGate_52 : decode cX8_bestGate 52 = .ok (.aload_n 0, 1) := by decide +kernel
theorem dX8_bestGate_53 : decode cX8_bestGate 53 = .ok (.getfield 17, 3) := by decide +kernel
theorem dX8_bestGate_56 : decode cX8_bestGate 56 = .ok (.iload_n 3, 1) := by decide +kernel
theorem dX8_bestGate_57 : decode cX8_bestGate 57 = .ok (.iload_n 1, 1) := by decide +kernel
theorem dX8_bestGate_58 : decode cX8_bestGate 58 = .ok (.invokestatic 38, 3) := by decide +kernel
theorem dX8_bestGate_61 : decode cX8_bestGate 61 = .ok (.aload_n 0, 1) := by decide +kernel
theorem dX8_bestGate_62 : decode cX8_bestGate 62 = .ok (.getfield 17, 3) := by decide +kernel
theorem dX8_bestGate_65 : decode cX8_bestGate 65 = .ok (.iload_n 2, 1) := by decide +kernel
theorem dX8_bestGate_66 : decode cX8_bestGate 66 = .ok (.iload_n 1, 1) := by decide +kernel
theorem dX8_bestGate_67 : decode cX8_bestGate 67 = .ok (.invokestatic 38, 3) := by decide +kernel
theorem dX8_bestGate_70 : decode cX8_bestGate 70 = .ok (.if_icmp .ge 5, 3) := by decide +kernel
theorem dX8_bestGate_73 : decode cX8_bestGate 73 = .ok (.iload_n 3, 1) := by decide +kernel
theorem dX8_bestGate_74 : decode cX8_bestGate 74 = .ok (.istore_n 2, 1) := by decide +kernel
theorem dX8_bestGate_75 : decode cX8_bestGate 75 = .ok (.iinc 3 1, 3) := by decide +kernel
theorem dX8_bestGate_78 : decode cX8_bestGate 78 = .ok (.goto (-58), 3) := by decide +kernel
theorem dX8_bestGate_81 : decode cX8_bestGate 81 = .ok (.iload_n 2, 1) := by decide +kernel
theorem dX8_bestGate_82 : decode cX8_bestGate 82 = .ok (.ireturn, 1) := by decide +kernel
theorem dX8_nextSide_0 : decode cX8_nextSide 0 = .ok (.aload_n 0, 1) := by decide +kernel
theorem dX8_nextSide_1 : decode cX8_nextSide 1 = .ok (.iconst 0, 1) := by decide +kernel
theorem dX8_nextSide_2 : decode cX8_nextSide 2 = .ok (.putfield 31, 3) := by decide +kernel
theorem dX8_nextSide_5 : decode cX8_nextSide 5 = .ok (.aload_n 0, 1) := by decide +kernel
theorem dX8_nextSide_6 : decode cX8_nextSide 6 = .ok (.iload_n 1, 1) := by decide +kernel
theorem dX8_nextSide_7 : decode cX8_nextSide 7 = .ok (.invokevirtual 242, 3) := by decide +kernel
theorem dX8_nextSide_10 : decode cX8_nextSide 10 = .ok (.ifCond .eq 7, 3) := by decide +kernel
theorem dX8_nextSide_13 : decode cX8_nextSide 13 = .ok (.iconst 0, 1) := by decide +kernel
theorem dX8_nextSide_14 : decode cX8_nextSide 14 = .ok (.goto 11, 3) := by decide +kernel
theorem dX8_nextSide_17 : decode cX8_nextSide 17 = .ok (.aload_n 0, 1) := by decide +kernel
theorem dX8_nextSide_18 : decode cX8_nextSide 18 = .ok (.getfield 17, 3) := by decide +kernel
theorem dX8_nextSide_21 : decode cX8_nextSide 21 = .ok (.iload_n 1, 1) := by decide +kernel
theorem dX8_nextSide_22 : decode cX8_nextSide 22 = .ok (.invokestatic 78, 3) := by decide +kernel
theorem dX8_nextSide_25 : decode cX8_nextSide 25 = .ok (.ireturn, 1) := by decide +kernel
theorem dX8_throughIn_0 : decode cX8_throughIn 0 = .ok (.aload_n 0, 1) := by decide +kernel
theorem dX8_throughIn_1 : decode cX8_throughIn 1 = .ok (.iconst 0, 1) := by decide +kernel
theorem dX8_throughIn_2 : decode cX8_throughIn 2 = .ok (.putfield 31, 3) := by decide +kernel
theorem dX8_throughIn_5 : decode cX8_throughIn 5 = .ok (.aload_n 0, 1) := by decide +kernel
theorem dX8_throughIn_6 : decode cX8_throughIn 6 = .ok (.iload_n 1, 1) := by decide +kernel
theorem dX8_throughIn_7 : decode cX8_throughIn 7 = .ok (.invokevirtual 248, 3) := by decide +kernel
theorem dX8_throughIn_10 : decode cX8_throughIn 10 = .ok (.ifCond .ne 16, 3) := by decide +kernel
theorem dX8_throughIn_13 : decode cX8_throughIn 13 = .ok (.aload_n 0, 1) := by decide +kernel
theorem dX8_throughIn_14 : decode cX8_throughIn 14 = .ok (.getfield 17, 3) := by decide +kernel
theorem dX8_throughIn_17 : decode cX8_throughIn 17 = .ok (.iload_n 1, 1) := by decide +kernel
theorem dX8_throughIn_18 : decode cX8_throughIn 18 = .ok (.iconst 3, 1) := by decide +kernel
theorem dX8_throughIn_19 : decode cX8_throughIn 19 = .ok (.invokestatic 50, 3) := by decide +kernel
theorem dX8_throughIn_22 : decode cX8_throughIn 22 = .ok (.iconst (-1), 1) := by decide +kernel
theorem dX8_throughIn_23 : decode cX8_throughIn 23 = .ok (.if_icmp .ne 16, 3) := by decide +kernel
theorem dX8_throughIn_26 : decode cX8_throughIn 26 = .ok (.aload_n 0, 1) := by decide +kernel
theorem dX8_throughIn_27 : decode cX8_throughIn 27 = .ok (.getfield 31, 3) := by decide +kernel
theorem dX8_throughIn_30 : decode cX8_throughIn 30 = .ok (.ifCond .eq 7, 3) := by decide +kernel
theorem dX8_throughIn_33 : decode cX8_throughIn 33 = .ok (.iconst 0, 1) := by decide +kernel
theorem dX8_throughIn_34 : decode cX8_throughIn 34 = .ok (.goto 4, 3) := by decide +kernel
theorem dX8_throughIn_37 : decode cX8_throughIn 37 = .ok (.iconst (-1), 1) := by decide +kernel
theorem dX8_throughIn_38 : decode cX8_throughIn 38 = .ok (.ireturn, 1) := by decide +kernel
theorem dX8_throughIn_39 : decode cX8_throughIn 39 = .ok (.aload_n 0, 1) := by decide +kernel
theorem dX8_throughIn_40 : decode cX8_throughIn 40 = .ok (.getfield 17, 3) := by decide +kernel
theorem dX8_throughIn_43 : decode cX8_throughIn 43 = .ok (.aload_n 0, 1) := by decide +kernel
theorem dX8_throughIn_44 : decode cX8_throughIn 44 = .ok (.getfield 23, 3) := by decide +kernel
theorem dX8_throughIn_47 : decode cX8_throughIn 47 = .ok (.invokestatic 232, 3) := by decide +kernel
theorem dX8_throughIn_50 : decode cX8_throughIn 50 = .ok (.iconst 1, 1) := by decide +kernel
theorem dX8_throughIn_51 : decode cX8_throughIn 51 = .ok (.istore_n 2, 1) := by decide +kernel
theorem dX8_throughIn_52 : decode cX8_throughIn 52 = .ok (.iload_n 2, 1) := by decide +kernel
theorem dX8_throughIn_53 : decode cX8_throughIn 53 = .ok (.sipush 200, 3) := by decide +kernel
theorem dX8_throughIn_56 : decode cX8_throughIn 56 = .ok (.if_icmp .gt 42, 3) := by decide +kernel
theorem dX8_throughIn_59 : decode cX8_throughIn 59 = .ok (.aload_n 0, 1) := by decide +kernel
theorem dX8_throughIn_60 : decode cX8_throughIn 60 = .ok (.getfield 23, 3) := by decide +kernel
theorem dX8_throughIn_63 : decode cX8_throughIn 63 = .ok (.iconst 1, 1) := by decide +kernel
theorem dX8_throughIn_64 : decode cX8_throughIn 64 = .ok (.invokestatic 208, 3) := by decide +kernel
theorem dX8_throughIn_67 : decode cX8_throughIn 67 = .ok (.aload_n 0, 1) := by decide +kernel
theorem dX8_throughIn_68 : decode cX8_throughIn 68 = .ok (.getfield 23, 3) := by decide +kernel
theorem dX8_throughIn_71 : decode cX8_throughIn 71 = .ok (.iload_n 1, 1) := by decide +kernel
theorem dX8_throughIn_72 : decode cX8_throughIn 72 = .ok (.iconst 3, 1) := by decide +kernel
theorem dX8_throughIn_73 : decode cX8_throughIn 73 = .ok (.invokestatic 61, 3) := by decide +kernel
theorem dX8_throughIn_76 : decode cX8_throughIn 76 = .ok (.iaload, 1) := by decide +kernel
theorem dX8_throughIn_77 : decode cX8_throughIn 77 = .ok (.aload_n 0, 1) := by decide +kernel
theorem dX8_throughIn_78 : decode cX8_throughIn 78 = .ok (.getfield 17, 3) := by decide +kernel
theorem dX8_throughIn_81 : decode cX8_throughIn 81 = .ok (.iload_n 1, 1) := by decide +kernel
theorem dX8_throughIn_82 : decode cX8_throughIn 82 = .ok (.iconst 3, 1) := by decide +kernel
theorem dX8_throughIn_83 : decode cX8_throughIn 83 = .ok (.invokestatic 61, 3) := by decide +kernel
theorem dX8_throughIn_86 : decode cX8_throughIn 86 = .ok (.iaload, 1) := by decide +kernel
theorem dX8_throughIn_87 : decode cX8_throughIn 87 = .ok (.if_icmp .le 5, 3) := by decide +kernel
theorem dX8_throughIn_90 : decode cX8_throughIn 90 = .ok (.iload_n 2, 1) := by decide +kernel
theorem dX8_throughIn_91 : decode cX8_throughIn 91 = .ok (.ireturn, 1) := by decide +kernel
theorem dX8_throughIn_92 : decode cX8_throughIn 92 = .ok (.iinc 2 1, 3) := by decide +kernel
theorem dX8_throughIn_95 : decode cX8_throughIn 95 = .ok (.goto (-43), 3) := by decide +kernel
theorem dX8_throughIn_98 : decode cX8_throughIn 98 = .ok (.iconst (-1), 1) := by decide +kernel
theorem dX8_throughIn_99 : decode cX8_throughIn 99 = .ok (.ireturn, 1) := by decide +kernel
theorem dX8_insideIn_0 : decode cX8_insideIn 0 = .ok (.aload_n 0, 1) := by decide +kernel
theorem dX8_insideIn_1 : decode cX8_insideIn 1 = .ok (.iconst 0, 1) := by decide +kernel
theorem dX8_insideIn_2 : decode cX8_insideIn 2 = .ok (.putfield 31, 3) := by decide +kernel
theorem dX8_insideIn_5 : decode cX8_insideIn 5 = .ok (.aload_n 0, 1) := by decide +kernel
theorem dX8_insideIn_6 : decode cX8_insideIn 6 = .ok (.iload_n 1, 1) := by decide +kernel
theorem dX8_insideIn_7 : decode cX8_insideIn 7 = .ok (.iconst 1, 1) := by decide +kernel
theorem dX8_insideIn_8 : decode cX8_insideIn 8 = .ok (.sipush 200, 3) := by decide +kernel
theorem dX8_insideIn_11 : decode cX8_insideIn 11 = .ok (.invokestatic 117, 3) := by decide +kernel
theorem dX8_insideIn_14 : decode cX8_insideIn 14 = .ok (.ifCond .ne 7, 3) := by decide +kernel
theorem dX8_insideIn_17 : decode cX8_insideIn 17 = .ok (.iconst 1, 1) := by decide +kernel
theorem dX8_insideIn_18 : decode cX8_insideIn 18 = .ok (.goto 4, 3) := by decide +kernel
theorem dX8_insideIn_21 : decode cX8_insideIn 21 = .ok (.iconst 0, 1) := by decide +kernel
theorem dX8_insideIn_22 : decode cX8_insideIn 22 = .ok (.iconst 1, 1) := by decide +kernel
theorem dX8_insideIn_23 : decode cX8_insideIn 23 = .ok (.invokevirtual 220, 3) := by decide +kernel
theorem dX8_insideIn_26 : decode cX8_insideIn 26 = .ok (.ifCond .eq 5, 3) := by decide +kernel
theorem dX8_insideIn_29 : decode cX8_insideIn 29 = .ok (.iconst 0, 1) := by decide +kernel
theorem dX8_insideIn_30 : decode cX8_insideIn 30 = .ok (.ireturn, 1) := by decide +kernel
theorem dX8_insideIn_31 : decode cX8_insideIn 31 = .ok (.aload_n 0, 1) := by decide +kernel
theorem dX8_insideIn_32 : decode cX8_insideIn 32 = .ok (.getfield 17, 3) := by decide +kernel
theorem dX8_insideIn_35 : decode cX8_insideIn 35 = .ok (.aload_n 0, 1) := by decide +kernel
theorem dX8_insideIn_36 : decode cX8_insideIn 36 = .ok (.getfield 23, 3) := by decide +kernel
theorem dX8_insideIn_39 : decode cX8_insideIn 39 = .ok (.invokestatic 232, 3) := by decide +kernel
theorem dX8_insideIn_42 : decode cX8_insideIn 42 = .ok (.aload_n 0, 1) := by decide +kernel
theorem dX8_insideIn_43 : decode cX8_insideIn 43 = .ok (.getfield 23, 3) := by decide +kernel
theorem dX8_insideIn_46 : decode cX8_insideIn 46 = .ok (.iload_n 1, 1) := by decide +kernel
theorem dX8_insideIn_47 : decode cX8_insideIn 47 = .ok (.invokestatic 208, 3) := by decide +kernel
theorem dX8_insideIn_50 : decode cX8_insideIn 50 = .ok (.aload_n 0, 1) := by decide +kernel
theorem dX8_insideIn_51 : decode cX8_insideIn 51 = .ok (.getfield 23, 3) := by decide +kernel
theorem dX8_insideIn_54 : decode cX8_insideIn 54 = .ok (.iconst 3, 1) := by decide +kernel
theorem dX8_insideIn_55 : decode cX8_insideIn 55 = .ok (.iaload, 1) := by decide +kernel
theorem dX8_insideIn_56 : decode cX8_insideIn 56 = .ok (.ireturn, 1) := by decide +kernel
theorem dX8_followersIn_0 : decode cX8_followersIn 0 = .ok (.aload_n 0, 1) := by decide +kernel
theorem dX8_followersIn_1 : decode cX8_followersIn 1 = .ok (.iconst 0, 1) := by decide +kernel
theorem dX8_followersIn_2 : decode cX8_followersIn 2 = .ok (.putfield 31, 3) := by decide +kernel
theorem dX8_followersIn_5 : decode cX8_followersIn 5 = .ok (.aload_n 0, 1) := by decide +kernel
theorem dX8_followersIn_6 : decode cX8_followersIn 6 = .ok (.iload_n 1, 1) := by decide +kernel
theorem dX8_followersIn_7 : decode cX8_followersIn 7 = .ok (.iconst 1, 1) := by decide +kernel
theorem dX8_followersIn_8 : decode cX8_followersIn 8 = .ok (.sipush 200, 3) := by decide +kernel
theorem dX8_followersIn_11 : decode cX8_followersIn 11 = .ok (.invokestatic 117, 3) := by decide +kernel
theorem dX8_followersIn_14 : decode cX8_followersIn 14 = .ok (.ifCond .ne 7, 3) := by decide +kernel
theorem dX8_followersIn_17 : decode cX8_followersIn 17 = .ok (.iconst 1, 1) := by decide +kernel
theorem dX8_followersIn_18 : decode cX8_followersIn 18 = .ok (.goto 4, 3) := by decide +kernel
theorem dX8_followersIn_21 : decode cX8_followersIn 21 = .ok (.iconst 0, 1) := by decide +kernel
theorem dX8_followersIn_22 : decode cX8_followersIn 22 = .ok (.iconst 1, 1) := by decide +kernel
theorem dX8_followersIn_23 : decode cX8_followersIn 23 = .ok (.invokevirtual 220, 3) := by decide +kernel
theorem dX8_followersIn_26 : decode cX8_followersIn 26 = .ok (.ifCond .eq 5, 3) := by decide +kernel
theorem dX8_followersIn_29 : decode cX8_followersIn 29 = .ok (.iconst 0, 1) := by decide +kernel
theorem dX8_followersIn_30 : decode cX8_followersIn 30 = .ok (.ireturn, 1) := by decide +kernel
theorem dX8_followersIn_31 : decode cX8_followersIn 31 = .ok (.aload_n 0, 1) := by decide +kernel
theorem dX8_followersIn_32 : decode cX8_followersIn 32 = .ok (.getfield 17, 3) := by decide +kernel
theorem dX8_followersIn_35 : decode cX8_followersIn 35 = .ok (.aload_n 0, 1) := by decide +kernel
theorem dX8_followersIn_36 : decode cX8_followersIn 36 = .ok (.getfield 23, 3) := by decide +kernel
theorem dX8_followersIn_39 : decode cX8_followersIn 39 = .ok (.invokestatic 232, 3) := by decide +kernel
theorem dX8_followersIn_42 : decode cX8_followersIn 42 = .ok (.aload_n 0, 1) := by decide +kernel
theorem dX8_followersIn_43 : decode cX8_followersIn 43 = .ok (.getfield 23, 3) := by decide +kernel
theorem dX8_followersIn_46 : decode cX8_followersIn 46 = .ok (.iload_n 1, 1) := by decide +kernel
theorem dX8_followersIn_47 : decode cX8_followersIn 47 = .ok (.invokestatic 208, 3) := by decide +kernel
theorem dX8_followersIn_50 : decode cX8_followersIn 50 = .ok (.aload_n 0, 1) := by decide +kernel
theorem dX8_followersIn_51 : decode cX8_followersIn 51 = .ok (.getfield 23, 3) := by decide +kernel
theorem dX8_followersIn_54 : decode cX8_followersIn 54 = .ok (.bipush 11, 2) := by decide +kernel
theorem dX8_followersIn_56 : decode cX8_followersIn 56 = .ok (.iaload, 1) := by decide +kernel
theorem dX8_followersIn_57 : decode cX8_followersIn 57 = .ok (.aload_n 0, 1) := by decide +kernel
theorem dX8_followersIn_58 : decode cX8_followersIn 58 = .ok (.getfield 17, 3) := by decide +kernel
theorem dX8_followersIn_61 : decode cX8_followersIn 61 = .ok (.bipush 11, 2) := by decide +kernel
theorem dX8_followersIn_63 : decode cX8_followersIn 63 = .ok (.iaload, 1) := by decide +kernel
theorem dX8_followersIn_64 : decode cX8_followersIn 64 = .ok (.isub, 1) := by decide +kernel
theorem dX8_followersIn_65 : decode cX8_followersIn 65 = .ok (.ireturn, 1) := by decide +kernel
theorem dX8_outInPanic_0 : decode cX8_outInPanic 0 = .ok (.aload_n 0, 1) := by decide +kernel
theorem dX8_outInPanic_1 : decode cX8_outInPanic 1 = .ok (.iconst 0, 1) := by decide +kernel
theorem dX8_outInPanic_2 : decode cX8_outInPanic 2 = .ok (.putfield 31, 3) := by decide +kernel
theorem dX8_outInPanic_5 : decode cX8_outInPanic 5 = .ok (.iconst 0, 1) := by decide +kernel
theorem dX8_outInPanic_6 : decode cX8_outInPanic 6 = .ok (.istore_n 1, 1) := by decide +kernel
theorem dX8_outInPanic_7 : decode cX8_outInPanic 7 = .ok (.iconst 0, 1) := by decide +kernel
theorem dX8_outInPanic_8 : decode cX8_outInPanic 8 = .ok (.istore_n 2, 1) := by decide +kernel
theorem dX8_outInPanic_9 : decode cX8_outInPanic 9 = .ok (.iload_n 2, 1) := by decide +kernel
theorem dX8_outInPanic_10 : decode cX8_outInPanic 10 = .ok (.aload_n 0, 1) := by decide +kernel
theorem dX8_outInPanic_11 : decode cX8_outInPanic 11 = .ok (.getfield 17, 3) := by decide +kernel
theorem dX8_outInPanic_14 : decode cX8_outInPanic 14 = .ok (.iconst 4, 1) := by decide +kernel
theorem dX8_outInPanic_15 : decode cX8_outInPanic 15 = .ok (.iaload, 1) := by decide +kernel
theorem dX8_outInPanic_16 : decode cX8_outInPanic 16 = .ok (.if_icmp .ge 39, 3) := by decide +kernel
theorem dX8_outInPanic_19 : decode cX8_outInPanic 19 = .ok (.iload_n 1, 1) := by decide +kernel
theorem dX8_outInPanic_20 : decode cX8_outInPanic 20 = .ok (.aload_n 0, 1) := by decide +kernel
theorem dX8_outInPanic_21 : decode cX8_outInPanic 21 = .ok (.getfield 17, 3) := by decide +kernel
theorem dX8_outInPanic_24 : decode cX8_outInPanic 24 = .ok (.iload_n 2, 1) := by decide +kernel
theorem dX8_outInPanic_25 : decode cX8_outInPanic 25 = .ok (.iconst 1, 1) := by decide +kernel
theorem dX8_outInPanic_26 : decode cX8_outInPanic 26 = .ok (.invokestatic 38, 3) := by decide +kernel
theorem dX8_outInPanic_29 : decode cX8_outInPanic 29 = .ok (.aload_n 0, 1) := by decide +kernel
theorem dX8_outInPanic_30 : decode cX8_outInPanic 30 = .ok (.getfield 17, 3) := by decide +kernel
theorem dX8_outInPanic_33 : decode cX8_outInPanic 33 = .ok (.iconst 1, 1) := by decide +kernel
theorem dX8_outInPanic_34 : decode cX8_outInPanic 34 = .ok (.iaload, 1) := by decide +kernel
theorem dX8_outInPanic_35 : decode cX8_outInPanic 35 = .ok (.iadd, 1) := by decide +kernel
theorem dX8_outInPanic_36 : decode cX8_outInPanic 36 = .ok (.iconst 1, 1) := by decide +kernel
theorem dX8_outInPanic_37 : decode cX8_outInPanic 37 = .ok (.isub, 1) := by decide +kernel
theorem dX8_outInPanic_38 : decode cX8_outInPanic 38 = .ok (.aload_n 0, 1) := by decide +kernel
theorem dX8_outInPanic_39 : decode cX8_outInPanic 39 = .ok (.getfield 17, 3) := by decide +kernel
theorem dX8_outInPanic_42 : decode cX8_outInPanic 42 = .ok (.iconst 1, 1) := by decide +kernel
theorem dX8_outInPanic_43 : decode cX8_outInPanic 43 = .ok (.iaload, 1) := by decide +kernel
theorem dX8_outInPanic_44 : decode cX8_outInPanic 44 = .ok (.idiv, 1) := by decide +kernel
theorem dX8_outInPanic_45 : decode cX8_outInPanic 45 = .ok (.invokestatic 162, 3) := by decide +kernel
theorem dX8_outInPanic_48 : decode cX8_outInPanic 48 = .ok (.istore_n 1, 1) := by decide +kernel
theorem dX8_outInPanic_49 : decode cX8_outInPanic 49 = .ok (.iinc 2 1, 3) := by decide +kernel
theorem dX8_outInPanic_52 : decode cX8_outInPanic 52 = .ok (.goto (-43), 3) := by decide +kernel
theorem dX8_outInPanic_55 : decode cX8_outInPanic 55 = .ok (.iload_n 1, 1) := by decide +kernel
theorem dX8_outInPanic_56 : decode cX8_outInPanic 56 = .ok (.ireturn, 1) := by decide +kernel
theorem dX8_ranked_0 : decode cX8_ranked 0 = .ok (.aload_n 0, 1) := by decide +kernel
theorem dX8_ranked_1 : decode cX8_ranked 1 = .ok (.iconst 0, 1) := by decide +kernel
theorem dX8_ranked_2 : decode cX8_ranked 2 = .ok (.putfield 31, 3) := by decide +kernel
theorem dX8_ranked_5 : decode cX8_ranked 5 = .ok (.iconst 0, 1) := by decide +kernel
theorem dX8_ranked_6 : decode cX8_ranked 6 = .ok (.istore_n 2, 1) := by decide +kernel
theorem dX8_ranked_7 : decode cX8_ranked 7 = .ok (.iload_n 2, 1) := by decide +kernel
theorem dX8_ranked_8 : decode cX8_ranked 8 = .ok (.aload_n 0, 1) := by decide +kernel
theorem dX8_ranked_9 : decode cX8_ranked 9 = .ok (.getfield 17, 3) := by decide +kernel
theorem dX8_ranked_12 : decode cX8_ranked 12 = .ok (.iconst 4, 1) := by decide +kernel
theorem dX8_ranked_13 : decode cX8_ranked 13 = .ok (.iaload, 1) := by decide +kernel
theorem dX8_ranked_14 : decode cX8_ranked 14 = .ok (.if_icmp .ge 105, 3) := by decide +kernel
theorem dX8_ranked_17 : decode cX8_ranked 17 = .ok (.iconst 0, 1) := by decide +kernel
theorem dX8_ranked_18 : decode cX8_ranked 18 = .ok (.istore_n 3, 1) := by decide +kernel
theorem dX8_ranked_19 : decode cX8_ranked 19 = .ok (.iconst 0, 1) := by decide +kernel
theorem dX8_ranked_20 : decode cX8_ranked 20 = .ok (.istore 4, 2) := by decide +kernel
theorem dX8_ranked_22 : decode cX8_ranked 22 = .ok (.iload 4, 2) := by decide +kernel
theorem dX8_ranked_24 : decode cX8_ranked 24 = .ok (.aload_n 0, 1) := by decide +kernel
theorem dX8_ranked_25 : decode cX8_ranked 25 = .ok (.getfield 17, 3) := by decide +kernel
theorem dX8_ranked_28 : decode cX8_ranked 28 = .ok (.iconst 4, 1) := by decide +kernel
theorem dX8_ranked_29 : decode cX8_ranked 29 = .ok (.iaload, 1) := by decide +kernel
theorem dX8_ranked_30 : decode cX8_ranked 30 = .ok (.if_icmp .ge 76, 3) := by decide +kernel
theorem dX8_ranked_33 : decode cX8_ranked 33 = .ok (.aload_n 0, 1) := by decide +kernel
theorem dX8_ranked_34 : decode cX8_ranked 34 = .ok (.getfield 17, 3) := by decide +kernel
theorem dX8_ranked_37 : decode cX8_ranked 37 = .ok (.iload 4, 2) := by decide +kernel
theorem dX8_ranked_39 : decode cX8_ranked 39 = .ok (.iconst 0, 1) := by decide +kernel
theorem dX8_ranked_40 : decode cX8_ranked 40 = .ok (.invokestatic 38, 3) := by decide +kernel
theorem dX8_ranked_43 : decode cX8_ranked 43 = .ok (.aload_n 0, 1) := by decide +kernel
theorem dX8_ranked_44 : decode cX8_ranked 44 = .ok (.getfield 17, 3) := by decide +kernel
theorem dX8_ranked_47 : decode cX8_ranked 47 = .ok (.iload 4, 2) := by decide +kernel
theorem dX8_ranked_49 : decode cX8_ranked 49 = .ok (.iconst 1, 1) := by decide +kernel
theorem dX8_ranked_50 : decode cX8_ranked 50 = .ok (.invokestatic 38, 3) := by decide +kernel
theorem dX8_ranked_53 : decode cX8_ranked 53 = .ok (.iadd, 1) := by decide +kernel
theorem dX8_ranked_54 : decode cX8_ranked 54 = .ok (.aload_n 0, 1) := by decide +kernel
theorem dX8_ranked_55 : decode cX8_ranked 55 = .ok (.getfield 17, 3) := by decide +kernel
theorem dX8_ranked_58 : decode cX8_ranked 58 = .ok (.iload_n 2, 1) := by decide +kernel
theorem dX8_ranked_59 : decode cX8_ranked 59 = .ok (.iconst 0, 1) := by decide +kernel
theorem dX8_ranked_60 : decode cX8_ranked 60 = .ok (.invokestatic 38, 3) := by decide +kernel
theorem dX8_ranked_63 : decode cX8_ranked 63 = .ok (.isub, 1) := by decide +kernel
theorem dX8_ranked_64 : decode cX8_ranked 64 = .ok (.aload_n 0, 1) := by decide +kernel
theorem dX8_ranked_65 : decode cX8_ranked 65 = .ok (.getfield 17, 3) := by decide +kernel
theorem dX8_ranked_68 : decode cX8_ranked 68 = .ok (.iload_n 2, 1) := by decide +kernel
theorem dX8_ranked_69 : decode cX8_ranked 69 = .ok (.iconst 1, 1) := by decide +kernel
theorem dX8_ranked_70 : decode cX8_ranked 70 = .ok (.invokestatic 38, 3) := by decide +kernel
theorem dX8_ranked_73 : decode cX8_ranked 73 = .ok (.isub, 1) := by decide +kernel
theorem dX8_ranked_74 : decode cX8_ranked 74 = .ok (.istore 5, 2) := by decide +kernel
theorem dX8_ranked_76 : decode cX8_ranked 76 = .ok (.iload_n 3, 1) := by decide +kernel
theorem dX8_ranked_77 : decode cX8_ranked 77 = .ok (.iload 5, 2) := by decide +kernel
theorem dX8_ranked_79 : decode cX8_ranked 79 = .ok (.ifCond .gt 14, 3) := by decide +kernel
theorem dX8_ranked_82 : decode cX8_ranked 82 = .ok (.iload 5, 2) := by decide +kernel
theorem dX8_ranked_84 : decode cX8_ranked 84 = .ok (.ifCond .ne 13, 3) := by decide +kernel
theorem dX8_ranked_87 : decode cX8_ranked 87 = .ok (.iload 4, 2) := by decide +kernel
theorem dX8_ranked_89 : decode cX8_ranked 89 = .ok (.iload_n 2, 1) := by decide +kernel
theorem dX8_ranked_90 : decode cX8_ranked 90 = .ok (.if_icmp .ge 7, 3) := by decide +kernel
theorem dX8_ranked_93 : decode cX8_ranked 93 = .ok (.iconst 1, 1) := by decide +kernel
theorem dX8_ranked_94 : decode cX8_ranked 94 = .ok (.goto 4, 3) := by decide +kernel
theorem dX8_ranked_97 : decode cX8_ranked 97 = .ok (.iconst 0, 1) := by decide +kernel
theorem dX8_ranked_98 : decode cX8_ranked 98 = .ok (.iadd, 1) := by decide +kernel
theorem dX8_ranked_99 : decode cX8_ranked 99 = .ok (.istore_n 3, 1) := by decide +kernel
theorem dX8_ranked_100 : decode cX8_ranked 100 = .ok (.iinc 4 1, 3) := by decide +kernel
theorem dX8_ranked_103 : decode cX8_ranked 103 = .ok (.goto (-81), 3) := by decide +kernel
theorem dX8_ranked_106 : decode cX8_ranked 106 = .ok (.iload_n 3, 1) := by decide +kernel
theorem dX8_ranked_107 : decode cX8_ranked 107 = .ok (.iload_n 1, 1) := by decide +kernel
theorem dX8_ranked_108 : decode cX8_ranked 108 = .ok (.if_icmp .ne 5, 3) := by decide +kernel
theorem dX8_ranked_111 : decode cX8_ranked 111 = .ok (.iload_n 2, 1) := by decide +kernel
theorem dX8_ranked_112 : decode cX8_ranked 112 = .ok (.ireturn, 1) := by decide +kernel
theorem dX8_ranked_113 : decode cX8_ranked 113 = .ok (.iinc 2 1, 3) := by decide +kernel
theorem dX8_ranked_116 : decode cX8_ranked 116 = .ok (.goto (-109), 3) := by decide +kernel
theorem dX8_ranked_119 : decode cX8_ranked 119 = .ok (.aload_n 0, 1) := by decide +kernel
theorem dX8_ranked_120 : decode cX8_ranked 120 = .ok (.iconst 1, 1) := by decide +kernel
theorem dX8_ranked_121 : decode cX8_ranked 121 = .ok (.iconst 1, 1) := by decide +kernel
theorem dX8_ranked_122 : decode cX8_ranked 122 = .ok (.invokevirtual 220, 3) := by decide +kernel
theorem dX8_ranked_125 : decode cX8_ranked 125 = .ok (.ifCond .eq 7, 3) := by decide +kernel
theorem dX8_ranked_128 : decode cX8_ranked 128 = .ok (.iconst 0, 1) := by decide +kernel
theorem dX8_ranked_129 : decode cX8_ranked 129 = .ok (.goto 4, 3) := by decide +kernel
theorem dX8_ranked_132 : decode cX8_ranked 132 = .ok (.iconst (-1), 1) := by decide +kernel
theorem dX8_ranked_133 : decode cX8_ranked 133 = .ok (.ireturn, 1) := by decide +kernel
theorem dX8_lines_0 : decode cX8_lines 0 = .ok (.iconst 0, 1) := by decide +kernel
theorem dX8_lines_1 : decode cX8_lines 1 = .ok (.istore_n 2, 1) := by decide +kernel
theorem dX8_lines_2 : decode cX8_lines 2 = .ok (.iconst 0, 1) := by decide +kernel
theorem dX8_lines_3 : decode cX8_lines 3 = .ok (.istore_n 3, 1) := by decide +kernel
theorem dX8_lines_4 : decode cX8_lines 4 = .ok (.iload_n 3, 1) := by decide +kernel
theorem dX8_lines_5 : decode cX8_lines 5 = .ok (.aload_n 0, 1) := by decide +kernel
theorem dX8_lines_6 : decode cX8_lines 6 = .ok (.getfield 17, 3) := by decide +kernel
theorem dX8_lines_9 : decode cX8_lines 9 = .ok (.iconst 4, 1) := by decide +kernel
theorem dX8_lines_10 : decode cX8_lines 10 = .ok (.iaload, 1) := by decide +kernel
theorem dX8_lines_11 : decode cX8_lines 11 = .ok (.if_icmp .ge 75, 3) := by decide +kernel
theorem dX8_lines_14 : decode cX8_lines 14 = .ok (.iconst 0, 1) := by decide +kernel
theorem dX8_lines_15 : decode cX8_lines 15 = .ok (.istore 4, 2) := by decide +kernel
theorem dX8_lines_17 : decode cX8_lines 17 = .ok (.iload 4, 2) := by decide +kernel
theorem dX8_lines_19 : decode cX8_lines 19 = .ok (.iconst 2, 1) := by decide +kernel
theorem dX8_lines_20 : decode cX8_lines 20 = .ok (.if_icmp .ge 60, 3) := by decide +kernel
theorem dX8_lines_23 : decode cX8_lines 23 = .ok (.iconst 0, 1) := by decide +kernel
theorem dX8_lines_24 : decode cX8_lines 24 = .ok (.istore 5, 2) := by decide +kernel
theorem dX8_lines_26 : decode cX8_lines 26 = .ok (.iload 5, 2) := by decide +kernel
theorem dX8_lines_28 : decode cX8_lines 28 = .ok (.aload_n 0, 1) := by decide +kernel
theorem dX8_lines_29 : decode cX8_lines 29 = .ok (.getfield 17, 3) := by decide +kernel
theorem dX8_lines_32 : decode cX8_lines 32 = .ok (.iload_n 3, 1) := by decide +kernel
theorem dX8_lines_33 : decode cX8_lines 33 = .ok (.iload 4, 2) := by decide +kernel
theorem dX8_lines_35 : decode cX8_lines 35 = .ok (.invokestatic 38, 3) := by decide +kernel
theorem dX8_lines_38 : decode cX8_lines 38 = .ok (.if_icmp .ge 36, 3) := by decide +kernel
theorem dX8_lines_41 : decode cX8_lines 41 = .ok (.iload_n 2, 1) := by decide +kernel
theorem dX8_lines_42 : decode cX8_lines 42 = .ok (.aload_n 0, 1) := by decide +kernel
theorem dX8_lines_43 : decode cX8_lines 43 = .ok (.getfield 17, 3) := by decide +kernel
theorem dX8_lines_46 : decode cX8_lines 46 = .ok (.iload_n 3, 1) := by decide +kernel
theorem dX8_lines_47 : decode cX8_lines 47 = .ok (.iload 4, 2) := by decide +kernel
theorem dX8_lines_49 : decode cX8_lines 49 = .ok (.iload 5, 2) := by decide +kernel
theorem dX8_lines_51 : decode cX8_lines 51 = .ok (.invokestatic 42, 3) := by decide +kernel
theorem dX8_lines_54 : decode cX8_lines 54 = .ok (.iaload, 1) := by decide +kernel
theorem dX8_lines_55 : decode cX8_lines 55 = .ok (.iload_n 1, 1) := by decide +kernel
theorem dX8_lines_56 : decode cX8_lines 56 = .ok (.iconst 1, 1) := by decide +kernel
theorem dX8_lines_57 : decode cX8_lines 57 = .ok (.iadd, 1) := by decide +kernel
theorem dX8_lines_58 : decode cX8_lines 58 = .ok (.if_icmp .ne 7, 3) := by decide +kernel
theorem dX8_lines_61 : decode cX8_lines 61 = .ok (.iconst 1, 1) := by decide +kernel
theorem dX8_lines_62 : decode cX8_lines 62 = .ok (.goto 4, 3) := by decide +kernel
theorem dX8_lines_65 : decode cX8_lines 65 = .ok (.iconst 0, 1) := by decide +kernel
theorem dX8_lines_66 : decode cX8_lines 66 = .ok (.iadd, 1) := by decide +kernel
theorem dX8_lines_67 : decode cX8_lines 67 = .ok (.istore_n 2, 1) := by decide +kernel
theorem dX8_lines_68 : decode cX8_lines 68 = .ok (.iinc 5 1, 3) := by decide +kernel
theorem dX8_lines_71 : decode cX8_lines 71 = .ok (.goto (-45), 3) := by decide +kernel
theorem dX8_lines_74 : decode cX8_lines 74 = .ok (.iinc 4 1, 3) := by decide +kernel
theorem dX8_lines_77 : decode cX8_lines 77 = .ok (.goto (-60), 3) := by decide +kernel
theorem dX8_lines_80 : decode cX8_lines 80 = .ok (.iinc 3 1, 3) := by decide +kernel
theorem dX8_lines_83 : decode cX8_lines 83 = .ok (.goto (-79), 3) := by decide +kernel
theorem dX8_lines_86 : decode cX8_lines 86 = .ok (.iload_n 2, 1) := by decide +kernel
theorem dX8_lines_87 : decode cX8_lines 87 = .ok (.ireturn, 1) := by decide +kernel
theorem dX8_gap_0 : decode cX8_gap 0 = .ok (.aload_n 0, 1) := by decide +kernel
theorem dX8_gap_1 : decode cX8_gap 1 = .ok (.iconst 0, 1) := by decide +kernel
theorem dX8_gap_2 : decode cX8_gap 2 = .ok (.putfield 31, 3) := by decide +kernel
theorem dX8_gap_5 : decode cX8_gap 5 = .ok (.aload_n 0, 1) := by decide +kernel
theorem dX8_gap_6 : decode cX8_gap 6 = .ok (.getfield 17, 3) := by decide +kernel
theorem dX8_gap_9 : decode cX8_gap 9 = .ok (.bipush 9, 2) := by decide +kernel
theorem dX8_gap_11 : decode cX8_gap 11 = .ok (.iaload, 1) := by decide +kernel
theorem dX8_gap_12 : decode cX8_gap 12 = .ok (.aload_n 0, 1) := by decide +kernel
theorem dX8_gap_13 : decode cX8_gap 13 = .ok (.getfield 17, 3) := by decide +kernel
theorem dX8_gap_16 : decode cX8_gap 16 = .ok (.bipush 10, 2) := by decide +kernel
theorem dX8_gap_18 : decode cX8_gap 18 = .ok (.iaload, 1) := by decide +kernel
theorem dX8_gap_19 : decode cX8_gap 19 = .ok (.isub, 1) := by decide +kernel
theorem dX8_gap_20 : decode cX8_gap 20 = .ok (.aload_n 0, 1) := by decide +kernel
theorem dX8_gap_21 : decode cX8_gap 21 = .ok (.getfield 17, 3) := by decide +kernel
theorem dX8_gap_24 : decode cX8_gap 24 = .ok (.bipush 15, 2) := by decide +kernel
theorem dX8_gap_26 : decode cX8_gap 26 = .ok (.iaload, 1) := by decide +kernel
theorem dX8_gap_27 : decode cX8_gap 27 = .ok (.isub, 1) := by decide +kernel
theorem dX8_gap_28 : decode cX8_gap 28 = .ok (.aload_n 0, 1) := by decide +kernel
theorem dX8_gap_29 : decode cX8_gap 29 = .ok (.getfield 17, 3) := by decide +kernel
theorem dX8_gap_32 : decode cX8_gap 32 = .ok (.iconst 3, 1) := by decide +kernel
theorem dX8_gap_33 : decode cX8_gap 33 = .ok (.iaload, 1) := by decide +kernel
theorem dX8_gap_34 : decode cX8_gap 34 = .ok (.isub, 1) := by decide +kernel
theorem dX8_gap_35 : decode cX8_gap 35 = .ok (.invokestatic 260, 3) := by decide +kernel
theorem dX8_gap_38 : decode cX8_gap 38 = .ok (.istore_n 1, 1) := by decide +kernel
theorem dX8_gap_39 : decode cX8_gap 39 = .ok (.iconst 0, 1) := by decide +kernel
theorem dX8_gap_40 : decode cX8_gap 40 = .ok (.istore_n 2, 1) := by decide +kernel
theorem dX8_gap_41 : decode cX8_gap 41 = .ok (.iload_n 2, 1) := by decide +kernel
theorem dX8_gap_42 : decode cX8_gap 42 = .ok (.aload_n 0, 1) := by decide +kernel
theorem dX8_gap_43 : decode cX8_gap 43 = .ok (.getfield 17, 3) := by decide +kernel
theorem dX8_gap_46 : decode cX8_gap 46 = .ok (.iconst 5, 1) := by decide +kernel
theorem dX8_gap_47 : decode cX8_gap 47 = .ok (.iaload, 1) := by decide +kernel
theorem dX8_gap_48 : decode cX8_gap 48 = .ok (.if_icmp .ge 26, 3) := by decide +kernel
theorem dX8_gap_51 : decode cX8_gap 51 = .ok (.iload_n 1, 1) := by decide +kernel
theorem dX8_gap_52 : decode cX8_gap 52 = .ok (.aload_n 0, 1) := by decide +kernel
theorem dX8_gap_53 : decode cX8_gap 53 = .ok (.iload_n 2, 1) := by decide +kernel
theorem dX8_gap_54 : decode cX8_gap 54 = .ok (.invokevirtual 263, 3) := by decide +kernel
theorem dX8_gap_57 : decode cX8_gap 57 = .ok (.iconst 1, 1) := by decide +kernel
theorem dX8_gap_58 : decode cX8_gap 58 = .ok (.if_icmp .le 7, 3) := by decide +kernel
theorem dX8_gap_61 : decode cX8_gap 61 = .ok (.iconst 1, 1) := by decide +kernel
theorem dX8_gap_62 : decode cX8_gap 62 = .ok (.goto 4, 3) := by decide +kernel
theorem dX8_gap_65 : decode cX8_gap 65 = .ok (.iconst 0, 1) := by decide +kernel
theorem dX8_gap_66 : decode cX8_gap 66 = .ok (.iadd, 1) := by decide +kernel
theorem dX8_gap_67 : decode cX8_gap 67 = .ok (.istore_n 1, 1) := by decide +kernel
theorem dX8_gap_68 : decode cX8_gap 68 = .ok (.iinc 2 1, 3) := by decide +kernel
theorem dX8_gap_71 : decode cX8_gap 71 = .ok (.goto (-30), 3) := by decide +kernel
theorem dX8_gap_74 : decode cX8_gap 74 = .ok (.iconst 0, 1) := by decide +kernel
theorem dX8_gap_75 : decode cX8_gap 75 = .ok (.istore_n 2, 1) := by decide +kernel
theorem dX8_gap_76 : decode cX8_gap 76 = .ok (.iload_n 2, 1) := by decide +kernel
theorem dX8_gap_77 : decode cX8_gap 77 = .ok (.aload_n 0, 1) := by decide +kernel
theorem dX8_gap_78 : decode cX8_gap 78 = .ok (.getfield 17, 3) := by decide +kernel
theorem dX8_gap_81 : decode cX8_gap 81 = .ok (.iconst 4, 1) := by decide +kernel
theorem dX8_gap_82 : decode cX8_gap 82 = .ok (.iaload, 1) := by decide +kernel
theorem dX8_gap_83 : decode cX8_gap 83 = .ok (.if_icmp .ge 55, 3) := by decide +kernel
theorem dX8_gap_86 : decode cX8_gap 86 = .ok (.iconst 0, 1) := by decide +kernel
theorem dX8_gap_87 : decode cX8_gap 87 = .ok (.istore_n 3, 1) := by decide +kernel
theorem dX8_gap_88 : decode cX8_gap 88 = .ok (.iload_n 3, 1) := by decide +kernel
theorem dX8_gap_89 : decode cX8_gap 89 = .ok (.iconst 2, 1) := by decide +kernel
theorem dX8_gap_90 : decode cX8_gap 90 = .ok (.if_icmp .ge 42, 3) := by decide +kernel
theorem dX8_gap_93 : decode cX8_gap 93 = .ok (.iload_n 1, 1) := by decide +kernel
theorem dX8_gap_94 : decode cX8_gap 94 = .ok (.aload_n 0, 1) := by decide +kernel
theorem dX8_gap_95 : decode cX8_gap 95 = .ok (.getfield 17, 3) := by decide +kernel
theorem dX8_gap_98 : decode cX8_gap 98 = .ok (.iload_n 2, 1) := by decide +kernel
theorem dX8_gap_99 : decode cX8_gap 99 = .ok (.iconst 0, 1) := by decide +kernel
theorem dX8_gap_100 : decode cX8_gap 100 = .ok (.invokestatic 34, 3) := by decide +kernel
theorem dX8_gap_103 : decode cX8_gap 103 = .ok (.iaload, 1) := by decide +kernel
theorem dX8_gap_104 : decode cX8_gap 104 = .ok (.iload_n 3, 1) := by decide +kernel
theorem dX8_gap_105 : decode cX8_gap 105 = .ok (.invokestatic 46, 3) := by decide +kernel
theorem dX8_gap_108 : decode cX8_gap 108 = .ok (.ifCond .eq 7, 3) := by decide +kernel
theorem dX8_gap_111 : decode cX8_gap 111 = .ok (.iconst 0, 1) := by decide +kernel
theorem dX8_gap_112 : decode cX8_gap 112 = .ok (.goto 12, 3) := by decide +kernel
theorem dX8_gap_115 : decode cX8_gap 115 = .ok (.aload_n 0, 1) := by decide +kernel
theorem dX8_gap_116 : decode cX8_gap 116 = .ok (.getfield 17, 3) := by decide +kernel
theorem dX8_gap_119 : decode cX8_gap 119 = .ok (.iload_n 2, 1) := by decide +kernel
theorem dX8_gap_120 : decode cX8_gap 120 = .ok (.iload_n 3, 1) := by decide +kernel
theorem dX8_gap_121 : decode cX8_gap 121 = .ok (.invokestatic 38, 3) := by decide +kernel
theorem dX8_gap_124 : decode cX8_gap 124 = .ok (.iadd, 1) := by decide +kernel
theorem dX8_gap_125 : decode cX8_gap 125 = .ok (.istore_n 1, 1) := by decide +kernel
theorem dX8_gap_126 : decode cX8_gap 126 = .ok (.iinc 3 1, 3) := by decide +kernel
theorem dX8_gap_129 : decode cX8_gap 129 = .ok (.goto (-41), 3) := by decide +kernel
theorem dX8_gap_132 : decode cX8_gap 132 = .ok (.iinc 2 1, 3) := by decide +kernel
theorem dX8_gap_135 : decode cX8_gap 135 = .ok (.goto (-59), 3) := by decide +kernel
theorem dX8_gap_138 : decode cX8_gap 138 = .ok (.iload_n 1, 1) := by decide +kernel
theorem dX8_gap_139 : decode cX8_gap 139 = .ok (.ireturn, 1) := by decide +kernel
theorem dX8_followerShare_0 : decode cX8_followerShare 0 = .ok (.aload_n 0, 1) := by decide +kernel
theorem dX8_followerShare_1 : decode cX8_followerShare 1 = .ok (.iconst 0, 1) := by decide +kernel
theorem dX8_followerShare_2 : decode cX8_followerShare 2 = .ok (.putfield 31, 3) := by decide +kernel
theorem dX8_followerShare_5 : decode cX8_followerShare 5 = .ok (.aload_n 0, 1) := by decide +kernel
theorem dX8_followerShare_6 : decode cX8_followerShare 6 = .ok (.getfield 17, 3) := by decide +kernel
theorem dX8_followerShare_9 : decode cX8_followerShare 9 = .ok (.bipush 9, 2) := by decide +kernel
theorem dX8_followerShare_11 : decode cX8_followerShare 11 = .ok (.iaload, 1) := by decide +kernel
theorem dX8_followerShare_12 : decode cX8_followerShare 12 = .ok (.aload_n 0, 1) := by decide +kernel
theorem dX8_followerShare_13 : decode cX8_followerShare 13 = .ok (.getfield 17, 3) := by decide +kernel
theorem dX8_followerShare_16 : decode cX8_followerShare 16 = .ok (.bipush 10, 2) := by decide +kernel
theorem dX8_followerShare_18 : decode cX8_followerShare 18 = .ok (.iaload, 1) := by decide +kernel
theorem dX8_followerShare_19 : decode cX8_followerShare 19 = .ok (.iadd, 1) := by decide +kernel
theorem dX8_followerShare_20 : decode cX8_followerShare 20 = .ok (.istore_n 1, 1) := by decide +kernel
theorem dX8_followerShare_21 : decode cX8_followerShare 21 = .ok (.iload_n 1, 1) := by decide +kernel
theorem dX8_followerShare_22 : decode cX8_followerShare 22 = .ok (.ifCond .ne 7, 3) := by decide +kernel
theorem dX8_followerShare_25 : decode cX8_followerShare 25 = .ok (.fconst 0, 1) := by decide +kernel
theorem dX8_followerShare_26 : decode cX8_followerShare 26 = .ok (.goto 14, 3) := by decide +kernel
theorem dX8_followerShare_29 : decode cX8_followerShare 29 = .ok (.aload_n 0, 1) := by decide +kernel
theorem dX8_followerShare_30 : decode cX8_followerShare 30 = .ok (.getfield 17, 3) := by decide +kernel
theorem dX8_followerShare_33 : decode cX8_followerShare 33 = .ok (.bipush 11, 2) := by decide +kernel
theorem dX8_followerShare_35 : decode cX8_followerShare 35 = .ok (.iaload, 1) := by decide +kernel
theorem dX8_followerShare_36 : decode cX8_followerShare 36 = .ok (.i2f, 1) := by decide +kernel
theorem dX8_followerShare_37 : decode cX8_followerShare 37 = .ok (.iload_n 1, 1) := by decide +kernel
theorem dX8_followerShare_38 : decode cX8_followerShare 38 = .ok (.i2f, 1) := by decide +kernel
theorem dX8_followerShare_39 : decode cX8_followerShare 39 = .ok (.fdiv, 1) := by decide +kernel
theorem dX8_followerShare_40 : decode cX8_followerShare 40 = .ok (.freturn, 1) := by decide +kernel
theorem dX8_remember_0 : decode cX8_remember 0 = .ok (.aload_n 0, 1) := by decide +kernel
theorem dX8_remember_1 : decode cX8_remember 1 = .ok (.getfield 266, 3) := by decide +kernel
theorem dX8_remember_4 : decode cX8_remember 4 = .ok (.bipush 8, 2) := by decide +kernel
theorem dX8_remember_6 : decode cX8_remember 6 = .ok (.if_icmp .ne 44, 3) := by decide +kernel
theorem dX8_remember_9 : decode cX8_remember 9 = .ok (.iconst 1, 1) := by decide +kernel
theorem dX8_remember_10 : decode cX8_remember 10 = .ok (.istore_n 1, 1) := by decide +kernel
theorem dX8_remember_11 : decode cX8_remember 11 = .ok (.iload_n 1, 1) := by decide +kernel
theorem dX8_remember_12 : decode cX8_remember 12 = .ok (.bipush 8, 2) := by decide +kernel
theorem dX8_remember_14 : decode cX8_remember 14 = .ok (.if_icmp .ge 26, 3) := by decide +kernel
theorem dX8_remember_17 : decode cX8_remember 17 = .ok (.aload_n 0, 1) := by decide +kernel
theorem dX8_remember_18 : decode cX8_remember 18 = .ok (.getfield 28, 3) := by decide +kernel
theorem dX8_remember_21 : decode cX8_remember 21 = .ok (.iload_n 1, 1) := by decide +kernel
theorem dX8_remember_22 : decode cX8_remember 22 = .ok (.aaload, 1) := by decide +kernel
theorem dX8_remember_23 : decode cX8_remember 23 = .ok (.aload_n 0, 1) := by decide +kernel
theorem dX8_remember_24 : decode cX8_remember 24 = .ok (.getfield 28, 3) := by decide +kernel
theorem dX8_remember_27 : decode cX8_remember 27 = .ok (.iload_n 1, 1) := by decide +kernel
theorem dX8_remember_28 : decode cX8_remember 28 = .ok (.iconst 1, 1) := by decide +kernel
theorem dX8_remember_29 : decode cX8_remember 29 = .ok (.isub, 1) := by decide +kernel
theorem dX8_remember_30 : decode cX8_remember 30 = .ok (.aaload, 1) := by decide +kernel
theorem dX8_remember_31 : decode cX8_remember 31 = .ok (.invokestatic 232, 3) := by decide +kernel
theorem dX8_remember_34 : decode cX8_remember 34 = .ok (.iinc 1 1, 3) := by decide +kernel
theorem dX8_remember_37 : decode cX8_remember 37 = .ok (.goto (-26), 3) := by decide +kernel
theorem dX8_remember_40 : decode cX8_remember 40 = .ok (.aload_n 0, 1) := by decide +kernel
theorem dX8_remember_41 : decode cX8_remember 41 = .ok (.dup, 1) := by decide +kernel
theorem dX8_remember_42 : decode cX8_remember 42 = .ok (.getfield 266, 3) := by decide +kernel
theorem dX8_remember_45 : decode cX8_remember 45 = .ok (.iconst 1, 1) := by decide +kernel
theorem dX8_remember_46 : decode cX8_remember 46 = .ok (.isub, 1) := by decide +kernel
theorem dX8_remember_47 : decode cX8_remember 47 = .ok (.putfield 266, 3) := by decide +kernel
theorem dX8_remember_50 : decode cX8_remember 50 = .ok (.aload_n 0, 1) := by decide +kernel
theorem dX8_remember_51 : decode cX8_remember 51 = .ok (.getfield 17, 3) := by decide +kernel
theorem dX8_remember_54 : decode cX8_remember 54 = .ok (.aload_n 0, 1) := by decide +kernel
theorem dX8_remember_55 : decode cX8_remember 55 = .ok (.getfield 28, 3) := by decide +kernel
theorem dX8_remember_58 : decode cX8_remember 58 = .ok (.aload_n 0, 1) := by decide +kernel
theorem dX8_remember_59 : decode cX8_remember 59 = .ok (.getfield 266, 3) := by decide +kernel
theorem dX8_remember_62 : decode cX8_remember 62 = .ok (.aaload, 1) := by decide +kernel
theorem dX8_remember_63 : decode cX8_remember 63 = .ok (.invokestatic 232, 3) := by decide +kernel
theorem dX8_remember_66 : decode cX8_remember 66 = .ok (.aload_n 0, 1) := by decide +kernel
theorem dX8_remember_67 : decode cX8_remember 67 = .ok (.dup, 1) := by decide +kernel
theorem dX8_remember_68 : decode cX8_remember 68 = .ok (.getfield 266, 3) := by decide +kernel
theorem dX8_remember_71 : decode cX8_remember 71 = .ok (.iconst 1, 1) := by decide +kernel
theorem dX8_remember_72 : decode cX8_remember 72 = .ok (.iadd, 1) := by decide +kernel
theorem dX8_remember_73 : decode cX8_remember 73 = .ok (.putfield 266, 3) := by decide +kernel
theorem dX8_remember_76 : decode cX8_remember 76 = .ok (.return_, 1) := by decide +kernel
theorem dX8_join_0 : decode cX8_join 0 = .ok (.aload_n 0, 1) := by decide +kernel
theorem dX8_join_1 : decode cX8_join 1 = .ok (.iconst 0, 1) := by decide +kernel
theorem dX8_join_2 : decode cX8_join 2 = .ok (.putfield 31, 3) := by decide +kernel
theorem dX8_join_5 : decode cX8_join 5 = .ok (.aload_n 0, 1) := by decide +kernel
theorem dX8_join_6 : decode cX8_join 6 = .ok (.iload_n 1, 1) := by decide +kernel
theorem dX8_join_7 : decode cX8_join 7 = .ok (.iload_n 2, 1) := by decide +kernel
theorem dX8_join_8 : decode cX8_join 8 = .ok (.iload_n 3, 1) := by decide +kernel
theorem dX8_join_9 : decode cX8_join 9 = .ok (.invokevirtual 257, 3) := by decide +kernel
theorem dX8_join_12 : decode cX8_join 12 = .ok (.ifCond .eq 5, 3) := by decide +kernel
theorem dX8_join_15 : decode cX8_join 15 = .ok (.iconst 0, 1) := by decide +kernel
theorem dX8_join_16 : decode cX8_join 16 = .ok (.ireturn, 1) := by decide +kernel
theorem dX8_join_17 : decode cX8_join 17 = .ok (.aload_n 0, 1) := by decide +kernel
theorem dX8_join_18 : decode cX8_join 18 = .ok (.invokevirtual 229, 3) := by decide +kernel
theorem dX8_join_21 : decode cX8_join 21 = .ok (.aload_n 0, 1) := by decide +kernel
theorem dX8_join_22 : decode cX8_join 22 = .ok (.getfield 17, 3) := by decide +kernel
theorem dX8_join_25 : decode cX8_join 25 = .ok (.iload_n 1, 1) := by decide +kernel
theorem dX8_join_26 : decode cX8_join 26 = .ok (.iload_n 2, 1) := by decide +kernel
theorem dX8_join_27 : decode cX8_join 27 = .ok (.iload_n 3, 1) := by decide +kernel
theorem dX8_join_28 : decode cX8_join 28 = .ok (.invokestatic 183, 3) := by decide +kernel
theorem dX8_join_31 : decode cX8_join 31 = .ok (.istore 4, 2) := by decide +kernel
theorem dX8_join_33 : decode cX8_join 33 = .ok (.aload_n 0, 1) := by decide +kernel
theorem dX8_join_34 : decode cX8_join 34 = .ok (.getfield 17, 3) := by decide +kernel
theorem dX8_join_37 : decode cX8_join 37 = .ok (.bipush 13, 2) := by decide +kernel
theorem dX8_join_39 : decode cX8_join 39 = .ok (.dup2, 1) := by decide +kernel
theorem dX8_join_40 : decode cX8_join 40 = .ok (.iaload, 1) := by decide +kernel
theorem dX8_join_41 : decode cX8_join 41 = .ok (.iload 4, 2) := by decide +kernel
theorem dX8_join_43 : decode cX8_join 43 = .ok (.ifCond .ge 7, 3) := by decide +kernel
theorem dX8_join_46 : decode cX8_join 46 = .ok (.iconst 1, 1) := by decide +kernel
theorem dX8_join_47 : decode cX8_join 47 = .ok (.goto 4, 3) := by decide +kernel
theorem dX8_join_50 : decode cX8_join 50 = .ok (.iconst 0, 1) := by decide +kernel
theorem dX8_join_51 : decode cX8_join 51 = .ok (.iadd, 1) := by decide +kernel
theorem dX8_join_52 : decode cX8_join 52 = .ok (.iastore, 1) := by decide +kernel
theorem dX8_join_53 : decode cX8_join 53 = .ok (.iload 4, 2) := by decide +kernel
theorem dX8_join_55 : decode cX8_join 55 = .ok (.ireturn, 1) := by decide +kernel
theorem dX8_leave_0 : decode cX8_leave 0 = .ok (.aload_n 0, 1) := by decide +kernel
theorem dX8_leave_1 : decode cX8_leave 1 = .ok (.iconst 0, 1) := by decide +kernel
theorem dX8_leave_2 : decode cX8_leave 2 = .ok (.putfield 31, 3) := by decide +kernel
theorem dX8_leave_5 : decode cX8_leave 5 = .ok (.aload_n 0, 1) := by decide +kernel
theorem dX8_leave_6 : decode cX8_leave 6 = .ok (.iload_n 1, 1) := by decide +kernel
theorem dX8_leave_7 : decode cX8_leave 7 = .ok (.invokevirtual 242, 3) := by decide +kernel
theorem dX8_leave_10 : decode cX8_leave 10 = .ok (.ifCond .ne 44, 3) := by decide +kernel
theorem dX8_leave_13 : decode cX8_leave 13 = .ok (.aload_n 0, 1) := by decide +kernel
theorem dX8_leave_14 : decode cX8_leave 14 = .ok (.iload_n 2, 1) := by decide +kernel
theorem dX8_leave_15 : decode cX8_leave 15 = .ok (.iconst 2, 1) := by decide +kernel
theorem dX8_leave_16 : decode cX8_leave 16 = .ok (.invokevirtual 254, 3) := by decide +kernel
theorem dX8_leave_19 : decode cX8_leave 19 = .ok (.ifCond .ne 35, 3) := by decide +kernel
theorem dX8_leave_22 : decode cX8_leave 22 = .ok (.aload_n 0, 1) := by decide +kernel
theorem dX8_leave_23 : decode cX8_leave 23 = .ok (.iload_n 3, 1) := by decide +kernel
theorem dX8_leave_24 : decode cX8_leave 24 = .ok (.iconst 0, 1) := by decide +kernel
theorem dX8_leave_25 : decode cX8_leave 25 = .ok (.aload_n 0, 1) := by decide +kernel
theorem dX8_leave_26 : decode cX8_leave 26 = .ok (.getfield 17, 3) := by decide +kernel
theorem dX8_leave_29 : decode cX8_leave 29 = .ok (.iload_n 1, 1) := by decide +kernel
theorem dX8_leave_30 : decode cX8_leave 30 = .ok (.iload_n 2, 1) := by decide +kernel
theorem dX8_leave_31 : decode cX8_leave 31 = .ok (.invokestatic 38, 3) := by decide +kernel
theorem dX8_leave_34 : decode cX8_leave 34 = .ok (.iconst 1, 1) := by decide +kernel
theorem dX8_leave_35 : decode cX8_leave 35 = .ok (.isub, 1) := by decide +kernel
theorem dX8_leave_36 : decode cX8_leave 36 = .ok (.invokestatic 117, 3) := by decide +kernel
theorem dX8_leave_39 : decode cX8_leave 39 = .ok (.ifCond .ne 7, 3) := by decide +kernel
theorem dX8_leave_42 : decode cX8_leave 42 = .ok (.iconst 1, 1) := by decide +kernel
theorem dX8_leave_43 : decode cX8_leave 43 = .ok (.goto 4, 3) := by decide +kernel
theorem dX8_leave_46 : decode cX8_leave 46 = .ok (.iconst 0, 1) := by decide +kernel
theorem dX8_leave_47 : decode cX8_leave 47 = .ok (.iconst 3, 1) := by decide +kernel
theorem dX8_leave_48 : decode cX8_leave 48 = .ok (.invokevirtual 220, 3) := by decide +kernel
theorem dX8_leave_51 : decode cX8_leave 51 = .ok (.ifCond .eq 5, 3) := by decide +kernel
theorem dX8_leave_54 : decode cX8_leave 54 = .ok (.iconst 0, 1) := by decide +kernel
theorem dX8_leave_55 : decode cX8_leave 55 = .ok (.ireturn, 1) := by decide +kernel
theorem dX8_leave_56 : decode cX8_leave 56 = .ok (.aload_n 0, 1) := by decide +kernel
theorem dX8_leave_57 : decode cX8_leave 57 = .ok (.iload_n 3, 1) := by decide +kernel
theorem dX8_leave_58 : decode cX8_leave 58 = .ok (.ifCond .ne 37, 3) := by decide +kernel
theorem dX8_leave_61 : decode cX8_leave 61 = .ok (.aload_n 0, 1) := by decide +kernel
theorem dX8_leave_62 : decode cX8_leave 62 = .ok (.getfield 17, 3) := by decide +kernel
theorem dX8_leave_65 : decode cX8_leave 65 = .ok (.iload_n 1, 1) := by decide +kernel
theorem dX8_leave_66 : decode cX8_leave 66 = .ok (.iconst 3, 1) := by decide +kernel
theorem dX8_leave_67 : decode cX8_leave 67 = .ok (.invokestatic 34, 3) := by decide +kernel
theorem dX8_leave_70 : decode cX8_leave 70 = .ok (.iaload, 1) := by decide +kernel
theorem dX8_leave_71 : decode cX8_leave 71 = .ok (.iconst 1, 1) := by decide +kernel
theorem dX8_leave_72 : decode cX8_leave 72 = .ok (.if_icmp .ne 23, 3) := by decide +kernel
theorem dX8_leave_75 : decode cX8_leave 75 = .ok (.aload_n 0, 1) := by decide +kernel
theorem dX8_leave_76 : decode cX8_leave 76 = .ok (.getfield 17, 3) := by decide +kernel
theorem dX8_leave_79 : decode cX8_leave 79 = .ok (.iload_n 1, 1) := by decide +kernel
theorem dX8_leave_80 : decode cX8_leave 80 = .ok (.iconst 2, 1) := by decide +kernel
theorem dX8_leave_81 : decode cX8_leave 81 = .ok (.invokestatic 34, 3) := by decide +kernel
theorem dX8_leave_84 : decode cX8_leave 84 = .ok (.iaload, 1) := by decide +kernel
theorem dX8_leave_85 : decode cX8_leave 85 = .ok (.iload_n 2, 1) := by decide +kernel
theorem dX8_leave_86 : decode cX8_leave 86 = .ok (.iconst 1, 1) := by decide +kernel
theorem dX8_leave_87 : decode cX8_leave 87 = .ok (.iadd, 1) := by decide +kernel
theorem dX8_leave_88 : decode cX8_leave 88 = .ok (.if_icmp .ne 7, 3) := by decide +kernel
theorem dX8_leave_91 : decode cX8_leave 91 = .ok (.iconst 1, 1) := by decide +kernel
theorem dX8_leave_92 : decode cX8_leave 92 = .ok (.goto 4, 3) := by decide +kernel
theorem dX8_leave_95 : decode cX8_leave 95 = .ok (.iconst 0, 1) := by decide +kernel
theorem dX8_leave_96 : decode cX8_leave 96 = .ok (.iconst 4, 1) := by decide +kernel
theorem dX8_leave_97 : decode cX8_leave 97 = .ok (.invokevirtual 220, 3) := by decide +kernel
theorem dX8_leave_100 : decode cX8_leave 100 = .ok (.ifCond .eq 5, 3) := by decide +kernel
theorem dX8_leave_103 : decode cX8_leave 103 = .ok (.iconst 0, 1) := by decide +kernel
theorem dX8_leave_104 : decode cX8_leave 104 = .ok (.ireturn, 1) := by decide +kernel
theorem dX8_leave_105 : decode cX8_leave 105 = .ok (.aload_n 0, 1) := by decide +kernel
theorem dX8_leave_106 : decode cX8_leave 106 = .ok (.invokevirtual 229, 3) := by decide +kernel
theorem dX8_leave_109 : decode cX8_leave 109 = .ok (.aload_n 0, 1) := by decide +kernel
theorem dX8_leave_110 : decode cX8_leave 110 = .ok (.getfield 17, 3) := by decide +kernel
theorem dX8_leave_113 : decode cX8_leave 113 = .ok (.iload_n 1, 1) := by decide +kernel
theorem dX8_leave_114 : decode cX8_leave 114 = .ok (.iload_n 2, 1) := by decide +kernel
theorem dX8_leave_115 : decode cX8_leave 115 = .ok (.iload_n 3, 1) := by decide +kernel
theorem dX8_leave_116 : decode cX8_leave 116 = .ok (.invokestatic 68, 3) := by decide +kernel
theorem dX8_leave_119 : decode cX8_leave 119 = .ok (.pop, 1) := by decide +kernel
theorem dX8_leave_120 : decode cX8_leave 120 = .ok (.aload_n 0, 1) := by decide +kernel
theorem dX8_leave_121 : decode cX8_leave 121 = .ok (.getfield 17, 3) := by decide +kernel
theorem dX8_leave_124 : decode cX8_leave 124 = .ok (.iload_n 1, 1) := by decide +kernel
theorem dX8_leave_125 : decode cX8_leave 125 = .ok (.iload_n 2, 1) := by decide +kernel
theorem dX8_leave_126 : decode cX8_leave 126 = .ok (.invokestatic 38, 3) := by decide +kernel
theorem dX8_leave_129 : decode cX8_leave 129 = .ok (.ireturn, 1) := by decide +kernel
theorem dX8_list_0 : decode cX8_list 0 = .ok (.aload_n 0, 1) := by decide +kernel
theorem dX8_list_1 : decode cX8_list 1 = .ok (.iconst 0, 1) := by decide +kernel
theorem dX8_list_2 : decode cX8_list 2 = .ok (.putfield 31, 3) := by decide +kernel
theorem dX8_list_5 : decode cX8_list 5 = .ok (.aload_n 0, 1) := by decide +kernel
theorem dX8_list_6 : decode cX8_list 6 = .ok (.iload_n 1, 1) := by decide +kernel
theorem dX8_list_7 : decode cX8_list 7 = .ok (.invokevirtual 248, 3) := by decide +kernel
theorem dX8_list_10 : decode cX8_list 10 = .ok (.ifCond .eq 5, 3) := by decide +kernel
theorem dX8_list_13 : decode cX8_list 13 = .ok (.iconst 0, 1) := by decide +kernel
theorem dX8_list_14 : decode cX8_list 14 = .ok (.ireturn, 1) := by decide +kernel
theorem dX8_list_15 : decode cX8_list 15 = .ok (.aload_n 0, 1) := by decide +kernel
theorem dX8_list_16 : decode cX8_list 16 = .ok (.invokevirtual 229, 3) := by decide +kernel
theorem dX8_list_19 : decode cX8_list 19 = .ok (.iconst 0, 1) := by decide +kernel
theorem dX8_list_20 : decode cX8_list 20 = .ok (.istore_n 3, 1) := by decide +kernel
theorem dX8_list_21 : decode cX8_list 21 = .ok (.aload_n 0, 1) := by decide +kernel
theorem dX8_list_22 : decode cX8_list 22 = .ok (.getfield 17, 3) := by decide +kernel
theorem dX8_list_25 : decode cX8_list 25 = .ok (.iload_n 1, 1) := by decide +kernel
theorem dX8_list_26 : decode cX8_list 26 = .ok (.iconst 2, 1) := by decide +kernel
theorem dX8_list_27 : decode cX8_list 27 = .ok (.invokestatic 61, 3) := by decide +kernel
theorem dX8_list_30 : decode cX8_list 30 = .ok (.iload_n 2, 1) := by decide +kernel
theorem dX8_list_31 : decode cX8_list 31 = .ok (.ifCond .eq 7, 3) := by decide +kernel
theorem dX8_list_34 : decode cX8_list 34 = .ok (.iconst 1, 1) := by decide +kernel
theorem dX8_list_35 : decode cX8_list 35 = .ok (.goto 4, 3) := by decide +kernel
theorem dX8_list_38 : decode cX8_list 38 = .ok (.iconst 0, 1) := by decide +kernel
theorem dX8_list_39 : decode cX8_list 39 = .ok (.iastore, 1) := by decide +kernel
theorem dX8_list_40 : decode cX8_list 40 = .ok (.iconst 0, 1) := by decide +kernel
theorem dX8_list_41 : decode cX8_list 41 = .ok (.istore 4, 2) := by decide +kernel
theorem dX8_list_43 : decode cX8_list 43 = .ok (.iload 4, 2) := by decide +kernel
theorem dX8_list_45 : decode cX8_list 45 = .ok (.aload_n 0, 1) := by decide +kernel
theorem dX8_list_46 : decode cX8_list 46 = .ok (.getfield 17, 3) := by decide +kernel
theorem dX8_list_49 : decode cX8_list 49 = .ok (.iconst 5, 1) := by decide +kernel
theorem dX8_list_50 : decode cX8_list 50 = .ok (.iaload, 1) := by decide +kernel
theorem dX8_list_51 : decode cX8_list 51 = .ok (.if_icmp .ge 23, 3) := by decide +kernel
theorem dX8_list_54 : decode cX8_list 54 = .ok (.iload_n 3, 1) := by decide +kernel
theorem dX8_list_55 : decode cX8_list 55 = .ok (.aload_n 0, 1) := by decide +kernel
theorem dX8_list_56 : decode cX8_list 56 = .ok (.getfield 17, 3) := by decide +kernel
theorem dX8_list_59 : decode cX8_list 59 = .ok (.iload 4, 2) := by decide +kernel
theorem dX8_list_61 : decode cX8_list 61 = .ok (.iconst 2, 1) := by decide +kernel
theorem dX8_list_62 : decode cX8_list 62 = .ok (.invokestatic 61, 3) := by decide +kernel
theorem dX8_list_65 : decode cX8_list 65 = .ok (.iaload, 1) := by decide +kernel
theorem dX8_list_66 : decode cX8_list 66 = .ok (.iadd, 1) := by decide +kernel
theorem dX8_list_67 : decode cX8_list 67 = .ok (.istore_n 3, 1) := by decide +kernel
theorem dX8_list_68 : decode cX8_list 68 = .ok (.iinc 4 1, 3) := by decide +kernel
theorem dX8_list_71 : decode cX8_list 71 = .ok (.goto (-28), 3) := by decide +kernel
theorem dX8_list_74 : decode cX8_list 74 = .ok (.iload_n 3, 1) := by decide +kernel
theorem dX8_list_75 : decode cX8_list 75 = .ok (.ireturn, 1) := by decide +kernel
theorem dX8_charge_0 : decode cX8_charge 0 = .ok (.aload_n 0, 1) := by decide +kernel
theorem dX8_charge_1 : decode cX8_charge 1 = .ok (.iconst 0, 1) := by decide +kernel
theorem dX8_charge_2 : decode cX8_charge 2 = .ok (.putfield 31, 3) := by decide +kernel
theorem dX8_charge_5 : decode cX8_charge 5 = .ok (.aload_n 0, 1) := by decide +kernel
theorem dX8_charge_6 : decode cX8_charge 6 = .ok (.iload_n 1, 1) := by decide +kernel
theorem dX8_charge_7 : decode cX8_charge 7 = .ok (.invokevirtual 248, 3) := by decide +kernel
theorem dX8_charge_10 : decode cX8_charge 10 = .ok (.ifCond .ne 56, 3) := by decide +kernel
theorem dX8_charge_13 : decode cX8_charge 13 = .ok (.aload_n 0, 1) := by decide +kernel
theorem dX8_charge_14 : decode cX8_charge 14 = .ok (.iload_n 2, 1) := by decide +kernel
theorem dX8_charge_15 : decode cX8_charge 15 = .ok (.iconst 1, 1) := by decide +kernel
theorem dX8_charge_16 : decode cX8_charge 16 = .ok (.bipush 99, 2) := by decide +kernel
theorem dX8_charge_18 : decode cX8_charge 18 = .ok (.invokestatic 117, 3) := by decide +kernel
theorem dX8_charge_21 : decode cX8_charge 21 = .ok (.ifCond .ne 7, 3) := by decide +kernel
theorem dX8_charge_24 : decode cX8_charge 24 = .ok (.iconst 1, 1) := by decide +kernel
theorem dX8_charge_25 : decode cX8_charge 25 = .ok (.goto 4, 3) := by decide +kernel
theorem dX8_charge_28 : decode cX8_charge 28 = .ok (.iconst 0, 1) := by decide +kernel
theorem dX8_charge_29 : decode cX8_charge 29 = .ok (.iconst 2, 1) := by decide +kernel
theorem dX8_charge_30 : decode cX8_charge 30 = .ok (.invokevirtual 220, 3) := by decide +kernel
theorem dX8_charge_33 : decode cX8_charge 33 = .ok (.ifCond .ne 33, 3) := by decide +kernel
theorem dX8_charge_36 : decode cX8_charge 36 = .ok (.aload_n 0, 1) := by decide +kernel
theorem dX8_charge_37 : decode cX8_charge 37 = .ok (.aload_n 0, 1) := by decide +kernel
theorem dX8_charge_38 : decode cX8_charge 38 = .ok (.getfield 17, 3) := by decide +kernel
theorem dX8_charge_41 : decode cX8_charge 41 = .ok (.iload_n 1, 1) := by decide +kernel
theorem dX8_charge_42 : decode cX8_charge 42 = .ok (.iconst 0, 1) := by decide +kernel
theorem dX8_charge_43 : decode cX8_charge 43 = .ok (.invokestatic 61, 3) := by decide +kernel
theorem dX8_charge_46 : decode cX8_charge 46 = .ok (.iaload, 1) := by decide +kernel
theorem dX8_charge_47 : decode cX8_charge 47 = .ok (.iload_n 2, 1) := by decide +kernel
theorem dX8_charge_48 : decode cX8_charge 48 = .ok (.iadd, 1) := by decide +kernel
theorem dX8_charge_49 : decode cX8_charge 49 = .ok (.bipush 99, 2) := by decide +kernel
theorem dX8_charge_51 : decode cX8_charge 51 = .ok (.if_icmp .le 7, 3) := by decide +kernel
theorem dX8_charge_54 : decode cX8_charge 54 = .ok (.iconst 1, 1) := by decide +kernel
theorem dX8_charge_55 : decode cX8_charge 55 = .ok (.goto 4, 3) := by decide +kernel
theorem dX8_charge_58 : decode cX8_charge 58 = .ok (.iconst 0, 1) := by decide +kernel
theorem dX8_charge_59 : decode cX8_charge 59 = .ok (.iconst 3, 1) := by decide +kernel
theorem dX8_charge_60 : decode cX8_charge 60 = .ok (.invokevirtual 220, 3) := by decide +kernel
theorem dX8_charge_63 : decode cX8_charge 63 = .ok (.ifCond .eq 5, 3) := by decide +kernel
theorem dX8_charge_66 : decode cX8_charge 66 = .ok (.iconst 0, 1) := by decide +kernel
theorem dX8_charge_67 : decode cX8_charge 67 = .ok (.ireturn, 1) := by decide +kernel
theorem dX8_charge_68 : decode cX8_charge 68 = .ok (.aload_n 0, 1) := by decide +kernel
theorem dX8_charge_69 : decode cX8_charge 69 = .ok (.invokevirtual 229, 3) := by decide +kernel
theorem dX8_charge_72 : decode cX8_charge 72 = .ok (.aload_n 0, 1) := by decide +kernel
theorem dX8_charge_73 : decode cX8_charge 73 = .ok (.getfield 17, 3) := by decide +kernel
theorem dX8_charge_76 : decode cX8_charge 76 = .ok (.iload_n 1, 1) := by decide +kernel
theorem dX8_charge_77 : decode cX8_charge 77 = .ok (.iconst 0, 1) := by decide +kernel
theorem dX8_charge_78 : decode cX8_charge 78 = .ok (.invokestatic 61, 3) := by decide +kernel
theorem dX8_charge_81 : decode cX8_charge 81 = .ok (.dup2, 1) := by decide +kernel
theorem dX8_charge_82 : decode cX8_charge 82 = .ok (.iaload, 1) := by decide +kernel
theorem dX8_charge_83 : decode cX8_charge 83 = .ok (.iload_n 2, 1) := by decide +kernel
theorem dX8_charge_84 : decode cX8_charge 84 = .ok (.iadd, 1) := by decide +kernel
theorem dX8_charge_85 : decode cX8_charge 85 = .ok (.iastore, 1) := by decide +kernel
theorem dX8_charge_86 : decode cX8_charge 86 = .ok (.aload_n 0, 1) := by decide +kernel
theorem dX8_charge_87 : decode cX8_charge 87 = .ok (.getfield 17, 3) := by decide +kernel
theorem dX8_charge_90 : decode cX8_charge 90 = .ok (.iload_n 1, 1) := by decide +kernel
theorem dX8_charge_91 : decode cX8_charge 91 = .ok (.iconst 0, 1) := by decide +kernel
theorem dX8_charge_92 : decode cX8_charge 92 = .ok (.invokestatic 61, 3) := by decide +kernel
theorem dX8_charge_95 : decode cX8_charge 95 = .ok (.iaload, 1) := by decide +kernel
theorem dX8_charge_96 : decode cX8_charge 96 = .ok (.ireturn, 1) := by decide +kernel
theorem dX8_mode_0 : decode cX8_mode 0 = .ok (.aload_n 0, 1) := by decide +kernel
theorem dX8_mode_1 : decode cX8_mode 1 = .ok (.iconst 0, 1) := by decide +kernel
theorem dX8_mode_2 : decode cX8_mode 2 = .ok (.putfield 31, 3) := by decide +kernel
theorem dX8_mode_5 : decode cX8_mode 5 = .ok (.aload_n 0, 1) := by decide +kernel
theorem dX8_mode_6 : decode cX8_mode 6 = .ok (.iload_n 1, 1) := by decide +kernel
theorem dX8_mode_7 : decode cX8_mode 7 = .ok (.invokevirtual 242, 3) := by decide +kernel
theorem dX8_mode_10 : decode cX8_mode 10 = .ok (.ifCond .ne 25, 3) := by decide +kernel
theorem dX8_mode_13 : decode cX8_mode 13 = .ok (.aload_n 0, 1) := by decide +kernel
theorem dX8_mode_14 : decode cX8_mode 14 = .ok (.iload_n 2, 1) := by decide +kernel
theorem dX8_mode_15 : decode cX8_mode 15 = .ok (.iconst 0, 1) := by decide +kernel
theorem dX8_mode_16 : decode cX8_mode 16 = .ok (.iconst 2, 1) := by decide +kernel
theorem dX8_mode_17 : decode cX8_mode 17 = .ok (.invokestatic 117, 3) := by decide +kernel
theorem dX8_mode_20 : decode cX8_mode 20 = .ok (.ifCond .ne 7, 3) := by decide +kernel
theorem dX8_mode_23 : decode cX8_mode 23 = .ok (.iconst 1, 1) := by decide +kernel
theorem dX8_mode_24 : decode cX8_mode 24 = .ok (.goto 4, 3) := by decide +kernel
theorem dX8_mode_27 : decode cX8_mode 27 = .ok (.iconst 0, 1) := by decide +kernel
theorem dX8_mode_28 : decode cX8_mode 28 = .ok (.iconst 2, 1) := by decide +kernel
theorem dX8_mode_29 : decode cX8_mode 29 = .ok (.invokevirtual 220, 3) := by decide +kernel
theorem dX8_mode_32 : decode cX8_mode 32 = .ok (.ifCond .eq 5, 3) := by decide +kernel
theorem dX8_mode_35 : decode cX8_mode 35 = .ok (.iconst 0, 1) := by decide +kernel
theorem dX8_mode_36 : decode cX8_mode 36 = .ok (.ireturn, 1) := by decide +kernel
theorem dX8_mode_37 : decode cX8_mode 37 = .ok (.iconst 0, 1) := by decide +kernel
theorem dX8_mode_38 : decode cX8_mode 38 = .ok (.istore_n 3, 1) := by decide +kernel
theorem dX8_mode_39 : decode cX8_mode 39 = .ok (.iconst 0, 1) := by decide +kernel
theorem dX8_mode_40 : decode cX8_mode 40 = .ok (.istore 4, 2) := by decide +kernel
theorem dX8_mode_42 : decode cX8_mode 42 = .ok (.iload 4, 2) := by decide +kernel
theorem dX8_mode_44 : decode cX8_mode 44 = .ok (.iconst 2, 1) := by decide +kernel
theorem dX8_mode_45 : decode cX8_mode 45 = .ok (.if_icmp .ge 33, 3) := by decide +kernel
theorem dX8_mode_48 : decode cX8_mode 48 = .ok (.iload_n 2, 1) := by decide +kernel
theorem dX8_mode_49 : decode cX8_mode 49 = .ok (.iload 4, 2) := by decide +kernel
theorem dX8_mode_51 : decode cX8_mode 51 = .ok (.invokestatic 46, 3) := by decide +kernel
theorem dX8_mode_54 : decode cX8_mode 54 = .ok (.ifCond .ne 18, 3) := by decide +kernel
theorem dX8_mode_57 : decode cX8_mode 57 = .ok (.aload_n 0, 1) := by decide +kernel
theorem dX8_mode_58 : decode cX8_mode 58 = .ok (.getfield 17, 3) := by decide +kernel
theorem dX8_mode_61 : decode cX8_mode 61 = .ok (.iload_n 1, 1) := by decide +kernel
theorem dX8_mode_62 : decode cX8_mode 62 = .ok (.iload 4, 2) := by decide +kernel
theorem dX8_mode_64 : decode cX8_mode 64 = .ok (.invokestatic 38, 3) := by decide +kernel
theorem dX8_mode_67 : decode cX8_mode 67 = .ok (.ifCond .le 5, 3) := by decide +kernel
theorem dX8_mode_70 : decode cX8_mode 70 = .ok (.iconst 1, 1) := by decide +kernel
theorem dX8_mode_71 : decode cX8_mode 71 = .ok (.istore_n 3, 1) := by decide +kernel
theorem dX8_mode_72 : decode cX8_mode 72 = .ok (.iinc 4 1, 3) := by decide +kernel
theorem dX8_mode_75 : decode cX8_mode 75 = .ok (.goto (-33), 3) := by decide +kernel
theorem dX8_mode_78 : decode cX8_mode 78 = .ok (.aload_n 0, 1) := by decide +kernel
theorem dX8_mode_79 : decode cX8_mode 79 = .ok (.iload_n 3, 1) := by decide +kernel
theorem dX8_mode_80 : decode cX8_mode 80 = .ok (.ifCond .ne 16, 3) := by decide +kernel
theorem dX8_mode_83 : decode cX8_mode 83 = .ok (.aload_n 0, 1) := by decide +kernel
theorem dX8_mode_84 : decode cX8_mode 84 = .ok (.getfield 17, 3) := by decide +kernel
theorem dX8_mode_87 : decode cX8_mode 87 = .ok (.iload_n 1, 1) := by decide +kernel
theorem dX8_mode_88 : decode cX8_mode 88 = .ok (.iconst 1, 1) := by decide +kernel
theorem dX8_mode_89 : decode cX8_mode 89 = .ok (.invokestatic 34, 3) := by decide +kernel
theorem dX8_mode_92 : decode cX8_mode 92 = .ok (.iaload, 1) := by decide +kernel
theorem dX8_mode_93 : decode cX8_mode 93 = .ok (.ifCond .le 7, 3) := by decide +kernel
theorem dX8_mode_96 : decode cX8_mode 96 = .ok (.iconst 1, 1) := by decide +kernel
theorem dX8_mode_97 : decode cX8_mode 97 = .ok (.goto 4, 3) := by decide +kernel
theorem dX8_mode_100 : decode cX8_mode 100 = .ok (.iconst 0, 1) := by decide +kernel
theorem dX8_mode_101 : decode cX8_mode 101 = .ok (.iconst 3, 1) := by decide +kernel
theorem dX8_mode_102 : decode cX8_mode 102 = .ok (.invokevirtual 220, 3) := by decide +kernel
theorem dX8_mode_105 : decode cX8_mode 105 = .ok (.ifCond .eq 5, 3) := by decide +kernel
theorem dX8_mode_108 : decode cX8_mode 108 = .ok (.iconst 0, 1) := by decide +kernel
theorem dX8_mode_109 : decode cX8_mode 109 = .ok (.ireturn, 1) := by decide +kernel
theorem dX8_mode_110 : decode cX8_mode 110 = .ok (.aload_n 0, 1) := by decide +kernel
theorem dX8_mode_111 : decode cX8_mode 111 = .ok (.invokevirtual 229, 3) := by decide +kernel
theorem dX8_mode_114 : decode cX8_mode 114 = .ok (.aload_n 0, 1) := by decide +kernel
theorem dX8_mode_115 : decode cX8_mode 115 = .ok (.getfield 17, 3) := by decide +kernel
theorem dX8_mode_118 : decode cX8_mode 118 = .ok (.iload_n 1, 1) := by decide +kernel
theorem dX8_mode_119 : decode cX8_mode 119 = .ok (.iconst 0, 1) := by decide +kernel
theorem dX8_mode_120 : decode cX8_mode 120 = .ok (.invokestatic 34, 3) := by decide +kernel
theorem dX8_mode_123 : decode cX8_mode 123 = .ok (.iaload, 1) := by decide +kernel
theorem dX8_mode_124 : decode cX8_mode 124 = .ok (.istore 4, 2) := by decide +kernel
theorem dX8_mode_126 : decode cX8_mode 126 = .ok (.aload_n 0, 1) := by decide +kernel
theorem dX8_mode_127 : decode cX8_mode 127 = .ok (.getfield 17, 3) := by decide +kernel
theorem dX8_mode_130 : decode cX8_mode 130 = .ok (.iload_n 1, 1) := by decide +kernel
theorem dX8_mode_131 : decode cX8_mode 131 = .ok (.iconst 0, 1) := by decide +kernel
theorem dX8_mode_132 : decode cX8_mode 132 = .ok (.invokestatic 34, 3) := by decide +kernel
theorem dX8_mode_135 : decode cX8_mode 135 = .ok (.iload_n 2, 1) := by decide +kernel
theorem dX8_mode_136 : decode cX8_mode 136 = .ok (.iastore, 1) := by decide +kernel
theorem dX8_mode_137 : decode cX8_mode 137 = .ok (.iload 4, 2) := by decide +kernel
theorem dX8_mode_139 : decode cX8_mode 139 = .ok (.ireturn, 1) := by decide +kernel
theorem dX8_key_0 : decode cX8_key 0 = .ok (.aload_n 0, 1) := by decide +kernel
theorem dX8_key_1 : decode cX8_key 1 = .ok (.iconst 0, 1) := by decide +kernel
theorem dX8_key_2 : decode cX8_key 2 = .ok (.putfield 31, 3) := by decide +kernel
theorem dX8_key_5 : decode cX8_key 5 = .ok (.aload_n 0, 1) := by decide +kernel
theorem dX8_key_6 : decode cX8_key 6 = .ok (.iload_n 1, 1) := by decide +kernel
theorem dX8_key_7 : decode cX8_key 7 = .ok (.iconst 0, 1) := by decide +kernel
theorem dX8_key_8 : decode cX8_key 8 = .ok (.iconst 2, 1) := by decide +kernel
theorem dX8_key_9 : decode cX8_key 9 = .ok (.invokestatic 117, 3) := by decide +kernel
theorem dX8_key_12 : decode cX8_key 12 = .ok (.ifCond .ne 7, 3) := by decide +kernel
theorem dX8_key_15 : decode cX8_key 15 = .ok (.iconst 1, 1) := by decide +kernel
theorem dX8_key_16 : decode cX8_key 16 = .ok (.goto 4, 3) := by decide +kernel
theorem dX8_key_19 : decode cX8_key 19 = .ok (.iconst 0, 1) := by decide +kernel
theorem dX8_key_20 : decode cX8_key 20 = .ok (.iconst 1, 1) := by decide +kernel
theorem dX8_key_21 : decode cX8_key 21 = .ok (.invokevirtual 220, 3) := by decide +kernel
theorem dX8_key_24 : decode cX8_key 24 = .ok (.ifCond .eq 5, 3) := by decide +kernel
theorem dX8_key_27 : decode cX8_key 27 = .ok (.iconst 0, 1) := by decide +kernel
theorem dX8_key_28 : decode cX8_key 28 = .ok (.ireturn, 1) := by decide +kernel
theorem dX8_key_29 : decode cX8_key 29 = .ok (.aload_n 0, 1) := by decide +kernel
theorem dX8_key_30 : decode cX8_key 30 = .ok (.invokevirtual 229, 3) := by decide +kernel
theorem dX8_key_33 : decode cX8_key 33 = .ok (.aload_n 0, 1) := by decide +kernel
theorem dX8_key_34 : decode cX8_key 34 = .ok (.getfield 17, 3) := by decide +kernel
theorem dX8_key_37 : decode cX8_key 37 = .ok (.iload_n 1, 1) := by decide +kernel
theorem dX8_key_38 : decode cX8_key 38 = .ok (.invokestatic 213, 3) := by decide +kernel
theorem dX8_key_41 : decode cX8_key 41 = .ok (.ireturn, 1) := by decide +kernel
theorem dX8_tick_0 : decode cX8_tick 0 = .ok (.aload_n 0, 1) := by decide +kernel
theorem dX8_tick_1 : decode cX8_tick 1 = .ok (.iconst 0, 1) := by decide +kernel
theorem dX8_tick_2 : decode cX8_tick 2 = .ok (.putfield 31, 3) := by decide +kernel
theorem dX8_tick_5 : decode cX8_tick 5 = .ok (.aload_n 0, 1) := by decide +kernel
theorem dX8_tick_6 : decode cX8_tick 6 = .ok (.iload_n 1, 1) := by decide +kernel
theorem dX8_tick_7 : decode cX8_tick 7 = .ok (.iconst 1, 1) := by decide +kernel
theorem dX8_tick_8 : decode cX8_tick 8 = .ok (.bipush 99, 2) := by decide +kernel
theorem dX8_tick_10 : decode cX8_tick 10 = .ok (.invokestatic 117, 3) := by decide +kernel
theorem dX8_tick_13 : decode cX8_tick 13 = .ok (.ifCond .ne 7, 3) := by decide +kernel
theorem dX8_tick_16 : decode cX8_tick 16 = .ok (.iconst 1, 1) := by decide +kernel
theorem dX8_tick_17 : decode cX8_tick 17 = .ok (.goto 4, 3) := by decide +kernel
theorem dX8_tick_20 : decode cX8_tick 20 = .ok (.iconst 0, 1) := by decide +kernel
theorem dX8_tick_21 : decode cX8_tick 21 = .ok (.iconst 1, 1) := by decide +kernel
theorem dX8_tick_22 : decode cX8_tick 22 = .ok (.invokevirtual 220, 3) := by decide +kernel
theorem dX8_tick_25 : decode cX8_tick 25 = .ok (.ifCond .eq 5, 3) := by decide +kernel
theorem dX8_tick_28 : decode cX8_tick 28 = .ok (.iconst 0, 1) := by decide +kernel
theorem dX8_tick_29 : decode cX8_tick 29 = .ok (.ireturn, 1) := by decide +kernel
theorem dX8_tick_30 : decode cX8_tick 30 = .ok (.aload_n 0, 1) := by decide +kernel
theorem dX8_tick_31 : decode cX8_tick 31 = .ok (.invokevirtual 229, 3) := by decide +kernel
theorem dX8_tick_34 : decode cX8_tick 34 = .ok (.aload_n 0, 1) := by decide +kernel
theorem dX8_tick_35 : decode cX8_tick 35 = .ok (.getfield 17, 3) := by decide +kernel
theorem dX8_tick_38 : decode cX8_tick 38 = .ok (.bipush 9, 2) := by decide +kernel
theorem dX8_tick_40 : decode cX8_tick 40 = .ok (.iaload, 1) := by decide +kernel
theorem dX8_tick_41 : decode cX8_tick 41 = .ok (.aload_n 0, 1) := by decide +kernel
theorem dX8_tick_42 : decode cX8_tick 42 = .ok (.getfield 17, 3) := by decide +kernel
theorem dX8_tick_45 : decode cX8_tick 45 = .ok (.bipush 10, 2) := by decide +kernel
theorem dX8_tick_47 : decode cX8_tick 47 = .ok (.iaload, 1) := by decide +kernel
theorem dX8_tick_48 : decode cX8_tick 48 = .ok (.iadd, 1) := by decide +kernel
theorem dX8_tick_49 : decode cX8_tick 49 = .ok (.istore_n 2, 1) := by decide +kernel
theorem dX8_tick_50 : decode cX8_tick 50 = .ok (.aload_n 0, 1) := by decide +kernel
theorem dX8_tick_51 : decode cX8_tick 51 = .ok (.getfield 17, 3) := by decide +kernel
theorem dX8_tick_54 : decode cX8_tick 54 = .ok (.iload_n 1, 1) := by decide +kernel
theorem dX8_tick_55 : decode cX8_tick 55 = .ok (.invokestatic 208, 3) := by decide +kernel
theorem dX8_tick_58 : decode cX8_tick 58 = .ok (.aload_n 0, 1) := by decide +kernel
theorem dX8_tick_59 : decode cX8_tick 59 = .ok (.getfield 17, 3) := by decide +kernel
theorem dX8_tick_62 : decode cX8_tick 62 = .ok (.bipush 9, 2) := by decide +kernel
theorem dX8_tick_64 : decode cX8_tick 64 = .ok (.iaload, 1) := by decide +kernel
theorem dX8_tick_65 : decode cX8_tick 65 = .ok (.aload_n 0, 1) := by decide +kernel
theorem dX8_tick_66 : decode cX8_tick 66 = .ok (.getfield 17, 3) := by decide +kernel
theorem dX8_tick_69 : decode cX8_tick 69 = .ok (.bipush 10, 2) := by decide +kernel
theorem dX8_tick_71 : decode cX8_tick 71 = .ok (.iaload, 1) := by decide +kernel
theorem dX8_tick_72 : decode cX8_tick 72 = .ok (.iadd, 1) := by decide +kernel
theorem dX8_tick_73 : decode cX8_tick 73 = .ok (.iload_n 2, 1) := by decide +kernel
theorem dX8_tick_74 : decode cX8_tick 74 = .ok (.isub, 1) := by decide +kernel
theorem dX8_tick_75 : decode cX8_tick 75 = .ok (.ireturn, 1) := by decide +kernel
theorem dX8_undo_0 : decode cX8_undo 0 = .ok (.aload_n 0, 1) := by decide +kernel
theorem dX8_undo_1 : decode cX8_undo 1 = .ok (.iconst 0, 1) := by decide +kernel
theorem dX8_undo_2 : decode cX8_undo 2 = .ok (.putfield 31, 3) := by decide +kernel
theorem dX8_undo_5 : decode cX8_undo 5 = .ok (.aload_n 0, 1) := by decide +kernel
theorem dX8_undo_6 : decode cX8_undo 6 = .ok (.getfield 266, 3) := by decide +kernel
theorem dX8_undo_9 : decode cX8_undo 9 = .ok (.ifCond .ne 5, 3) := by decide +kernel
theorem dX8_undo_12 : decode cX8_undo 12 = .ok (.iconst (-1), 1) := by decide +kernel
theorem dX8_undo_13 : decode cX8_undo 13 = .ok (.ireturn, 1) := by decide +kernel
theorem dX8_undo_14 : decode cX8_undo 14 = .ok (.aload_n 0, 1) := by decide +kernel
theorem dX8_undo_15 : decode cX8_undo 15 = .ok (.dup, 1) := by decide +kernel
theorem dX8_undo_16 : decode cX8_undo 16 = .ok (.getfield 266, 3) := by decide +kernel
theorem dX8_undo_19 : decode cX8_undo 19 = .ok (.iconst 1, 1) := by decide +kernel
theorem dX8_undo_20 : decode cX8_undo 20 = .ok (.isub, 1) := by decide +kernel
theorem dX8_undo_21 : decode cX8_undo 21 = .ok (.putfield 266, 3) := by decide +kernel
theorem dX8_undo_24 : decode cX8_undo 24 = .ok (.aload_n 0, 1) := by decide +kernel
theorem dX8_undo_25 : decode cX8_undo 25 = .ok (.getfield 28, 3) := by decide +kernel
theorem dX8_undo_28 : decode cX8_undo 28 = .ok (.aload_n 0, 1) := by decide +kernel
theorem dX8_undo_29 : decode cX8_undo 29 = .ok (.getfield 266, 3) := by decide +kernel
theorem dX8_undo_32 : decode cX8_undo 32 = .ok (.aaload, 1) := by decide +kernel
theorem dX8_undo_33 : decode cX8_undo 33 = .ok (.aload_n 0, 1) := by decide +kernel
theorem dX8_undo_34 : decode cX8_undo 34 = .ok (.getfield 17, 3) := by decide +kernel
theorem dX8_undo_37 : decode cX8_undo 37 = .ok (.invokestatic 232, 3) := by decide +kernel
theorem dX8_undo_40 : decode cX8_undo 40 = .ok (.aload_n 0, 1) := by decide +kernel
theorem dX8_undo_41 : decode cX8_undo 41 = .ok (.getfield 266, 3) := by decide +kernel
theorem dX8_undo_44 : decode cX8_undo 44 = .ok (.ireturn, 1) := by decide +kernel
theorem dX8_checksum_0 : decode cX8_checksum 0 = .ok (.aload_n 0, 1) := by decide +kernel
theorem dX8_checksum_1 : decode cX8_checksum 1 = .ok (.iconst 0, 1) := by decide +kernel
theorem dX8_checksum_2 : decode cX8_checksum 2 = .ok (.putfield 31, 3) := by decide +kernel
theorem dX8_checksum_5 : decode cX8_checksum 5 = .ok (.lconst 0, 1) := by decide +kernel
theorem dX8_checksum_6 : decode cX8_checksum 6 = .ok (.lstore_n 1, 1) := by decide +kernel
theorem dX8_checksum_7 : decode cX8_checksum 7 = .ok (.iconst 0, 1) := by decide +kernel
theorem dX8_checksum_8 : decode cX8_checksum 8 = .ok (.istore_n 3, 1) := by decide +kernel
theorem dX8_checksum_9 : decode cX8_checksum 9 = .ok (.iload_n 3, 1) := by decide +kernel
theorem dX8_checksum_10 : decode cX8_checksum 10 = .ok (.bipush 16, 2) := by decide +kernel
theorem dX8_checksum_12 : decode cX8_checksum 12 = .ok (.if_icmp .ge 22, 3) := by decide +kernel
theorem dX8_checksum_15 : decode cX8_checksum 15 = .ok (.ldc2_w 269, 3) := by decide +kernel
theorem dX8_checksum_18 : decode cX8_checksum 18 = .ok (.lload_n 1, 1) := by decide +kernel
theorem dX8_checksum_19 : decode cX8_checksum 19 = .ok (.lmul, 1) := by decide +kernel
theorem dX8_checksum_20 : decode cX8_checksum 20 = .ok (.aload_n 0, 1) := by decide +kernel
theorem dX8_checksum_21 : decode cX8_checksum 21 = .ok (.iload_n 3, 1) := by decide +kernel
theorem dX8_checksum_22 : decode cX8_checksum 22 = .ok (.invokevirtual 239, 3) := by decide +kernel
theorem dX8_checksum_25 : decode cX8_checksum 25 = .ok (.i2l, 1) := by decide +kernel
theorem dX8_checksum_26 : decode cX8_checksum 26 = .ok (.ladd, 1) := by decide +kernel
theorem dX8_checksum_27 : decode cX8_checksum 27 = .ok (.lstore_n 1, 1) := by decide +kernel
theorem dX8_checksum_28 : decode cX8_checksum 28 = .ok (.iinc 3 1, 3) := by decide +kernel
theorem dX8_checksum_31 : decode cX8_checksum 31 = .ok (.goto (-22), 3) := by decide +kernel
theorem dX8_checksum_34 : decode cX8_checksum 34 = .ok (.iconst 0, 1) := by decide +kernel
theorem dX8_checksum_35 : decode cX8_checksum 35 = .ok (.istore_n 3, 1) := by decide +kernel
theorem dX8_checksum_36 : decode cX8_checksum 36 = .ok (.iload_n 3, 1) := by decide +kernel
theorem dX8_checksum_37 : decode cX8_checksum 37 = .ok (.aload_n 0, 1) := by decide +kernel
theorem dX8_checksum_38 : decode cX8_checksum 38 = .ok (.getfield 17, 3) := by decide +kernel
theorem dX8_checksum_41 : decode cX8_checksum 41 = .ok (.iconst 4, 1) := by decide +kernel
theorem dX8_checksum_42 : decode cX8_checksum 42 = .ok (.iaload, 1) := by decide +kernel
theorem dX8_checksum_43 : decode cX8_checksum 43 = .ok (.if_icmp .ge 102, 3) := by decide +kernel
theorem dX8_checksum_46 : decode cX8_checksum 46 = .ok (.iconst 0, 1) := by decide +kernel
theorem dX8_checksum_47 : decode cX8_checksum 47 = .ok (.istore 4, 2) := by decide +kernel
theorem dX8_checksum_49 : decode cX8_checksum 49 = .ok (.iload 4, 2) := by decide +kernel
theorem dX8_checksum_51 : decode cX8_checksum 51 = .ok (.bipush 9, 2) := by decide +kernel
theorem dX8_checksum_53 : decode cX8_checksum 53 = .ok (.if_icmp .ge 24, 3) := by decide +kernel
theorem dX8_checksum_56 : decode cX8_checksum 56 = .ok (.ldc2_w 269, 3) := by decide +kernel
theorem dX8_checksum_59 : decode cX8_checksum 59 = .ok (.lload_n 1, 1) := by decide +kernel
theorem dX8_checksum_60 : decode cX8_checksum 60 = .ok (.lmul, 1) := by decide +kernel
theorem dX8_checksum_61 : decode cX8_checksum 61 = .ok (.aload_n 0, 1) := by decide +kernel
theorem dX8_checksum_62 : decode cX8_checksum 62 = .ok (.iload_n 3, 1) := by decide +kernel
theorem dX8_checksum_63 : decode cX8_checksum 63 = .ok (.iload 4, 2) := by decide +kernel
theorem dX8_checksum_65 : decode cX8_checksum 65 = .ok (.invokevirtual 245, 3) := by decide +kernel
theorem dX8_checksum_68 : decode cX8_checksum 68 = .ok (.i2l, 1) := by decide +kernel
theorem dX8_checksum_69 : decode cX8_checksum 69 = .ok (.ladd, 1) := by decide +kernel
theorem dX8_checksum_70 : decode cX8_checksum 70 = .ok (.lstore_n 1, 1) := by decide +kernel
theorem dX8_checksum_71 : decode cX8_checksum 71 = .ok (.iinc 4 1, 3) := by decide +kernel
theorem dX8_checksum_74 : decode cX8_checksum 74 = .ok (.goto (-25), 3) := by decide +kernel
theorem dX8_checksum_77 : decode cX8_checksum 77 = .ok (.iconst 0, 1) := by decide +kernel
theorem dX8_checksum_78 : decode cX8_checksum 78 = .ok (.istore 4, 2) := by decide +kernel
theorem dX8_checksum_80 : decode cX8_checksum 80 = .ok (.iload 4, 2) := by decide +kernel
theorem dX8_checksum_82 : decode cX8_checksum 82 = .ok (.iconst 2, 1) := by decide +kernel
theorem dX8_checksum_83 : decode cX8_checksum 83 = .ok (.if_icmp .ge 56, 3) := by decide +kernel
theorem dX8_checksum_86 : decode cX8_checksum 86 = .ok (.iconst 0, 1) := by decide +kernel
theorem dX8_checksum_87 : decode cX8_checksum 87 = .ok (.istore 5, 2) := by decide +kernel
theorem dX8_checksum_89 : decode cX8_checksum 89 = .ok (.iload 5, 2) := by decide +kernel
theorem dX8_checksum_91 : decode cX8_checksum 91 = .ok (.aload_n 0, 1) := by decide +kernel
theorem dX8_checksum_92 : decode cX8_checksum 92 = .ok (.getfield 17, 3) := by decide +kernel
theorem dX8_checksum_95 : decode cX8_checksum 95 = .ok (.iload_n 3, 1) := by decide +kernel
theorem dX8_checksum_96 : decode cX8_checksum 96 = .ok (.iload 4, 2) := by decide +kernel
theorem dX8_checksum_98 : decode cX8_checksum 98 = .ok (.invokestatic 38, 3) := by decide +kernel
theorem dX8_checksum_101 : decode cX8_checksum 101 = .ok (.if_icmp .ge 32, 3) := by decide +kernel
theorem dX8_checksum_104 : decode cX8_checksum 104 = .ok (.ldc2_w 269, 3) := by decide +kernel
theorem dX8_checksum_107 : decode cX8_checksum 107 = .ok (.lload_n 1, 1) := by decide +kernel
theorem dX8_checksum_108 : decode cX8_checksum 108 = .ok (.lmul, 1) := by decide +kernel
theorem dX8_checksum_109 : decode cX8_checksum 109 = .ok (.aload_n 0, 1) := by decide +kernel
theorem dX8_checksum_110 : decode cX8_checksum 110 = .ok (.getfield 17, 3) := by decide +kernel
theorem dX8_checksum_113 : decode cX8_checksum 113 = .ok (.iload_n 3, 1) := by decide +kernel
theorem dX8_checksum_114 : decode cX8_checksum 114 = .ok (.iload 4, 2) := by decide +kernel
theorem dX8_checksum_116 : decode cX8_checksum 116 = .ok (.iload 5, 2) := by decide +kernel
theorem dX8_checksum_118 : decode cX8_checksum 118 = .ok (.invokestatic 42, 3) := by decide +kernel
theorem dX8_checksum_121 : decode cX8_checksum 121 = .ok (.iaload, 1) := by decide +kernel
theorem dX8_checksum_122 : decode cX8_checksum 122 = .ok (.i2l, 1) := by decide +kernel
theorem dX8_checksum_123 : decode cX8_checksum 123 = .ok (.ladd, 1) := by decide +kernel
theorem dX8_checksum_124 : decode cX8_checksum 124 = .ok (.lconst 1, 1) := by decide +kernel
theorem dX8_checksum_125 : decode cX8_checksum 125 = .ok (.lsub, 1) := by decide +kernel
theorem dX8_checksum_126 : decode cX8_checksum 126 = .ok (.lstore_n 1, 1) := by decide +kernel
theorem dX8_checksum_127 : decode cX8_checksum 127 = .ok (.iinc 5 1, 3) := by decide +kernel
theorem dX8_checksum_130 : decode cX8_checksum 130 = .ok (.goto (-41), 3) := by decide +kernel
theorem dX8_checksum_133 : decode cX8_checksum 133 = .ok (.iinc 4 1, 3) := by decide +kernel
theorem dX8_checksum_136 : decode cX8_checksum 136 = .ok (.goto (-56), 3) := by decide +kernel
theorem dX8_checksum_139 : decode cX8_checksum 139 = .ok (.iinc 3 1, 3) := by decide +kernel
theorem dX8_checksum_142 : decode cX8_checksum 142 = .ok (.goto (-106), 3) := by decide +kernel
theorem dX8_checksum_145 : decode cX8_checksum 145 = .ok (.iconst 0, 1) := by decide +kernel
theorem dX8_checksum_146 : decode cX8_checksum 146 = .ok (.istore_n 3, 1) := by decide +kernel
theorem dX8_checksum_147 : decode cX8_checksum 147 = .ok (.iload_n 3, 1) := by decide +kernel
theorem dX8_checksum_148 : decode cX8_checksum 148 = .ok (.aload_n 0, 1) := by decide +kernel
theorem dX8_checksum_149 : decode cX8_checksum 149 = .ok (.getfield 17, 3) := by decide +kernel
theorem dX8_checksum_152 : decode cX8_checksum 152 = .ok (.iconst 5, 1) := by decide +kernel
theorem dX8_checksum_153 : decode cX8_checksum 153 = .ok (.iaload, 1) := by decide +kernel
theorem dX8_checksum_154 : decode cX8_checksum 154 = .ok (.if_icmp .ge 40, 3) := by decide +kernel
theorem dX8_checksum_157 : decode cX8_checksum 157 = .ok (.iconst 0, 1) := by decide +kernel
theorem dX8_checksum_158 : decode cX8_checksum 158 = .ok (.istore 4, 2) := by decide +kernel
theorem dX8_checksum_160 : decode cX8_checksum 160 = .ok (.iload 4, 2) := by decide +kernel
theorem dX8_checksum_162 : decode cX8_checksum 162 = .ok (.bipush 7, 2) := by decide +kernel
theorem dX8_checksum_164 : decode cX8_checksum 164 = .ok (.if_icmp .ge 24, 3) := by decide +kernel
theorem dX8_checksum_167 : decode cX8_checksum 167 = .ok (.ldc2_w 269, 3) := by decide +kernel
theorem dX8_checksum_170 : decode cX8_checksum 170 = .ok (.lload_n 1, 1) := by decide +kernel
theorem dX8_checksum_171 : decode cX8_checksum 171 = .ok (.lmul, 1) := by decide +kernel
theorem dX8_checksum_172 : decode cX8_checksum 172 = .ok (.aload_n 0, 1) := by decide +kernel
theorem dX8_checksum_173 : decode cX8_checksum 173 = .ok (.iload_n 3, 1) := by decide +kernel
theorem dX8_checksum_174 : decode cX8_checksum 174 = .ok (.iload 4, 2) := by decide +kernel
theorem dX8_checksum_176 : decode cX8_checksum 176 = .ok (.invokevirtual 251, 3) := by decide +kernel
theorem dX8_checksum_179 : decode cX8_checksum 179 = .ok (.i2l, 1) := by decide +kernel
theorem dX8_checksum_180 : decode cX8_checksum 180 = .ok (.ladd, 1) := by decide +kernel
theorem dX8_checksum_181 : decode cX8_checksum 181 = .ok (.lstore_n 1, 1) := by decide +kernel
theorem dX8_checksum_182 : decode cX8_checksum 182 = .ok (.iinc 4 1, 3) := by decide +kernel
theorem dX8_checksum_185 : decode cX8_checksum 185 = .ok (.goto (-25), 3) := by decide +kernel
theorem dX8_checksum_188 : decode cX8_checksum 188 = .ok (.iinc 3 1, 3) := by decide +kernel
theorem dX8_checksum_191 : decode cX8_checksum 191 = .ok (.goto (-44), 3) := by decide +kernel
theorem dX8_checksum_194 : decode cX8_checksum 194 = .ok (.lload_n 1, 1) := by decide +kernel
theorem dX8_checksum_195 : decode cX8_checksum 195 = .ok (.lreturn, 1) := by decide +kernel
theorem dJ6_bitCount_0f7a4_0 : decode cJ6_bitCount_0f7a4 0 = .ok (.iload_n 0, 1) := by decide +kernel
theorem dJ6_bitCount_0f7a4_1 : decode cJ6_bitCount_0f7a4 1 = .ok (.iload_n 0, 1) := by decide +kernel
theorem dJ6_bitCount_0f7a4_2 : decode cJ6_bitCount_0f7a4 2 = .ok (.iconst 1, 1) := by decide +kernel
theorem dJ6_bitCount_0f7a4_3 : decode cJ6_bitCount_0f7a4 3 = .ok (.iushr, 1) := by decide +kernel
theorem dJ6_bitCount_0f7a4_4 : decode cJ6_bitCount_0f7a4 4 = .ok (.ldc_w 265, 3) := by decide +kernel
theorem dJ6_bitCount_0f7a4_7 : decode cJ6_bitCount_0f7a4 7 = .ok (.iand, 1) := by decide +kernel
theorem dJ6_bitCount_0f7a4_8 : decode cJ6_bitCount_0f7a4 8 = .ok (.isub, 1) := by decide +kernel
theorem dJ6_bitCount_0f7a4_9 : decode cJ6_bitCount_0f7a4 9 = .ok (.istore_n 0, 1) := by decide +kernel
theorem dJ6_bitCount_0f7a4_10 : decode cJ6_bitCount_0f7a4 10 = .ok (.iload_n 0, 1) := by decide +kernel
theorem dJ6_bitCount_0f7a4_11 : decode cJ6_bitCount_0f7a4 11 = .ok (.ldc_w 266, 3) := by decide +kernel
theorem dJ6_bitCount_0f7a4_14 : decode cJ6_bitCount_0f7a4 14 = .ok (.iand, 1) := by decide +kernel
theorem dJ6_bitCount_0f7a4_15 : decode cJ6_bitCount_0f7a4 15 = .ok (.iload_n 0, 1) := by decide +kernel
theorem dJ6_bitCount_0f7a4_16 : decode cJ6_bitCount_0f7a4 16 = .ok (.iconst 2, 1) := by decide +kernel
theorem dJ6_bitCount_0f7a4_17 : decode cJ6_bitCount_0f7a4 17 = .ok (.iushr, 1) := by decide +kernel
theorem dJ6_bitCount_0f7a4_18 : decode cJ6_bitCount_0f7a4 18 = .ok (.ldc_w 266, 3) := by decide +kernel
theorem dJ6_bitCount_0f7a4_21 : decode cJ6_bitCount_0f7a4 21 = .ok (.iand, 1) := by decide +kernel
theorem dJ6_bitCount_0f7a4_22 : decode cJ6_bitCount_0f7a4 22 = .ok (.iadd, 1) := by decide +kernel
theorem dJ6_bitCount_0f7a4_23 : decode cJ6_bitCount_0f7a4 23 = .ok (.istore_n 0, 1) := by decide +kernel
theorem dJ6_bitCount_0f7a4_24 : decode cJ6_bitCount_0f7a4 24 = .ok (.iload_n 0, 1) := by decide +kernel
theorem dJ6_bitCount_0f7a4_25 : decode cJ6_bitCount_0f7a4 25 = .ok (.iload_n 0, 1) := by decide +kernel
theorem dJ6_bitCount_0f7a4_26 : decode cJ6_bitCount_0f7a4 26 = .ok (.iconst 4, 1) := by decide +kernel
theorem dJ6_bitCount_0f7a4_27 : decode cJ6_bitCount_0f7a4 27 = .ok (.iushr, 1) := by decide +kernel
theorem dJ6_bitCount_0f7a4_28 : decode cJ6_bitCount_0f7a4 28 = .ok (.iadd, 1) := by decide +kernel
theorem dJ6_bitCount_0f7a4_29 : decode cJ6_bitCount_0f7a4 29 = .ok (.ldc_w 267, 3) := by decide +kernel
theorem dJ6_bitCount_0f7a4_32 : decode cJ6_bitCount_0f7a4 32 = .ok (.iand, 1) := by decide +kernel
theorem dJ6_bitCount_0f7a4_33 : decode cJ6_bitCount_0f7a4 33 = .ok (.istore_n 0, 1) := by decide +kernel
theorem dJ6_bitCount_0f7a4_34 : decode cJ6_bitCount_0f7a4 34 = .ok (.iload_n 0, 1) := by decide +kernel
theorem dJ6_bitCount_0f7a4_35 : decode cJ6_bitCount_0f7a4 35 = .ok (.iload_n 0, 1) := by decide +kernel
theorem dJ6_bitCount_0f7a4_36 : decode cJ6_bitCount_0f7a4 36 = .ok (.bipush 8, 2) := by decide +kernel
theorem dJ6_bitCount_0f7a4_38 : decode cJ6_bitCount_0f7a4 38 = .ok (.iushr, 1) := by decide +kernel
theorem dJ6_bitCount_0f7a4_39 : decode cJ6_bitCount_0f7a4 39 = .ok (.iadd, 1) := by decide +kernel
theorem dJ6_bitCount_0f7a4_40 : decode cJ6_bitCount_0f7a4 40 = .ok (.istore_n 0, 1) := by decide +kernel
theorem dJ6_bitCount_0f7a4_41 : decode cJ6_bitCount_0f7a4 41 = .ok (.iload_n 0, 1) := by decide +kernel
theorem dJ6_bitCount_0f7a4_42 : decode cJ6_bitCount_0f7a4 42 = .ok (.iload_n 0, 1) := by decide +kernel
theorem dJ6_bitCount_0f7a4_43 : decode cJ6_bitCount_0f7a4 43 = .ok (.bipush 16, 2) := by decide +kernel
theorem dJ6_bitCount_0f7a4_45 : decode cJ6_bitCount_0f7a4 45 = .ok (.iushr, 1) := by decide +kernel
theorem dJ6_bitCount_0f7a4_46 : decode cJ6_bitCount_0f7a4 46 = .ok (.iadd, 1) := by decide +kernel
theorem dJ6_bitCount_0f7a4_47 : decode cJ6_bitCount_0f7a4 47 = .ok (.istore_n 0, 1) := by decide +kernel
theorem dJ6_bitCount_0f7a4_48 : decode cJ6_bitCount_0f7a4 48 = .ok (.iload_n 0, 1) := by decide +kernel
theorem dJ6_bitCount_0f7a4_49 : decode cJ6_bitCount_0f7a4 49 = .ok (.bipush 63, 2) := by decide +kernel
theorem dJ6_bitCount_0f7a4_51 : decode cJ6_bitCount_0f7a4 51 = .ok (.iand, 1) := by decide +kernel
theorem dJ6_bitCount_0f7a4_52 : decode cJ6_bitCount_0f7a4 52 = .ok (.ireturn, 1) := by decide +kernel
theorem dJ9_abs_0f7a4_0 : decode cJ9_abs_0f7a4 0 = .ok (.iload_n 0, 1) := by decide +kernel
theorem dJ9_abs_0f7a4_1 : decode cJ9_abs_0f7a4 1 = .ok (.ifCond .ge 8, 3) := by decide +kernel
theorem dJ9_abs_0f7a4_4 : decode cJ9_abs_0f7a4 4 = .ok (.iload_n 0, 1) := by decide +kernel
theorem dJ9_abs_0f7a4_5 : decode cJ9_abs_0f7a4 5 = .ok (.ineg, 1) := by decide +kernel
theorem dJ9_abs_0f7a4_6 : decode cJ9_abs_0f7a4 6 = .ok (.goto 4, 3) := by decide +kernel
theorem dJ9_abs_0f7a4_9 : decode cJ9_abs_0f7a4 9 = .ok (.iload_n 0, 1) := by decide +kernel
theorem dJ9_abs_0f7a4_10 : decode cJ9_abs_0f7a4 10 = .ok (.ireturn, 1) := by decide +kernel
theorem dJ9_max_7cf53_0 : decode cJ9_max_7cf53 0 = .ok (.iload_n 0, 1) := by decide +kernel
theorem dJ9_max_7cf53_1 : decode cJ9_max_7cf53 1 = .ok (.iload_n 1, 1) := by decide +kernel
theorem dJ9_max_7cf53_2 : decode cJ9_max_7cf53 2 = .ok (.if_icmp .lt 7, 3) := by decide +kernel
theorem dJ9_max_7cf53_5 : decode cJ9_max_7cf53 5 = .ok (.iload_n 0, 1) := by decide +kernel
theorem dJ9_max_7cf53_6 : decode cJ9_max_7cf53 6 = .ok (.goto 4, 3) := by decide +kernel
theorem dJ9_max_7cf53_9 : decode cJ9_max_7cf53 9 = .ok (.iload_n 1, 1) := by decide +kernel
theorem dJ9_max_7cf53_10 : decode cJ9_max_7cf53 10 = .ok (.ireturn, 1) := by decide +kernel
theorem dJ9_min_7cf53_0 : decode cJ9_min_7cf53 0 = .ok (.iload_n 0, 1) := by decide +kernel
theorem dJ9_min_7cf53_1 : decode cJ9_min_7cf53 1 = .ok (.iload_n 1, 1) := by decide +kernel
theorem dJ9_min_7cf53_2 : decode cJ9_min_7cf53 2 = .ok (.if_icmp .gt 7, 3) := by decide +kernel
theorem dJ9_min_7cf53_5 : decode cJ9_min_7cf53 5 = .ok (.iload_n 0, 1) := by decide +kernel
theorem dJ9_min_7cf53_6 : decode cJ9_min_7cf53 6 = .ok (.goto 4, 3) := by decide +kernel
theorem dJ9_min_7cf53_9 : decode cJ9_min_7cf53 9 = .ok (.iload_n 1, 1) := by decide +kernel
theorem dJ9_min_7cf53_10 : decode cJ9_min_7cf53 10 = .ok (.ireturn, 1) := by decide +kernel
theorem dJ0_length_8abf5_0 : decode cJ0_length_8abf5 0 = .ok (.aload_n 0, 1) := by decide +kernel
theorem dJ0_length_8abf5_1 : decode cJ0_length_8abf5 1 = .ok (.getfield 9, 3) := by decide +kernel
theorem dJ0_length_8abf5_4 : decode cJ0_length_8abf5 4 = .ok (.arraylength, 1) := by decide +kernel
theorem dJ0_length_8abf5_5 : decode cJ0_length_8abf5 5 = .ok (.aload_n 0, 1) := by decide +kernel
theorem dJ0_length_8abf5_6 : decode cJ0_length_8abf5 6 = .ok (.invokevirtual 335, 3) := by decide +kernel
theorem dJ0_length_8abf5_9 : decode cJ0_length_8abf5 9 = .ok (.ishr, 1) := by decide +kernel
theorem dJ0_length_8abf5_10 : decode cJ0_length_8abf5 10 = .ok (.ireturn, 1) := by decide +kernel
theorem dJ0_charAt_5068e_0 : decode cJ0_charAt_5068e 0 = .ok (.aload_n 0, 1) := by decide +kernel
theorem dJ0_charAt_5068e_1 : decode cJ0_charAt_5068e 1 = .ok (.invokevirtual 492, 3) := by decide +kernel
theorem dJ0_charAt_5068e_4 : decode cJ0_charAt_5068e 4 = .ok (.ifCond .eq 12, 3) := by decide +kernel
theorem dJ0_charAt_5068e_7 : decode cJ0_charAt_5068e 7 = .ok (.aload_n 0, 1) := by decide +kernel
theorem dJ0_charAt_5068e_8 : decode cJ0_charAt_5068e 8 = .ok (.getfield 9, 3) := by decide +kernel
theorem dJ0_charAt_5068e_11 : decode cJ0_charAt_5068e 11 = .ok (.iload_n 1, 1) := by decide +kernel
theorem dJ0_charAt_5068e_12 : decode cJ0_charAt_5068e 12 = .ok (.invokestatic 495, 3) := by decide +kernel
theorem dJ0_charAt_5068e_15 : decode cJ0_charAt_5068e 15 = .ok (.ireturn, 1) := by decide +kernel
theorem dJ0_charAt_5068e_16 : decode cJ0_charAt_5068e 16 = .ok (.aload_n 0, 1) := by decide +kernel
theorem dJ0_charAt_5068e_17 : decode cJ0_charAt_5068e 17 = .ok (.getfield 9, 3) := by decide +kernel
theorem dJ0_charAt_5068e_20 : decode cJ0_charAt_5068e 20 = .ok (.iload_n 1, 1) := by decide +kernel
theorem dJ0_charAt_5068e_21 : decode cJ0_charAt_5068e 21 = .ok (.invokestatic 498, 3) := by decide +kernel
theorem dJ0_charAt_5068e_24 : decode cJ0_charAt_5068e 24 = .ok (.ireturn, 1) := by decide +kernel
theorem dJ0_coder_7d493_0 : decode cJ0_coder_7d493 0 = .ok (.getstatic 38, 3) := by decide +kernel
theorem dJ0_coder_7d493_3 : decode cJ0_coder_7d493 3 = .ok (.ifCond .eq 10, 3) := by decide +kernel
theorem dJ0_coder_7d493_6 : decode cJ0_coder_7d493 6 = .ok (.aload_n 0, 1) := by decide +kernel
theorem dJ0_coder_7d493_7 : decode cJ0_coder_7d493 7 = .ok (.getfield 15, 3) := by decide +kernel
theorem dJ0_coder_7d493_10 : decode cJ0_coder_7d493 10 = .ok (.goto 4, 3) := by decide +kernel
theorem dJ0_coder_7d493_13 : decode cJ0_coder_7d493 13 = .ok (.iconst 1, 1) := by decide +kernel
theorem dJ0_coder_7d493_14 : decode cJ0_coder_7d493 14 = .ok (.ireturn, 1) := by decide +kernel
theorem dJ0_isLatin1_aae02_0 : decode cJ0_isLatin1_aae02 0 = .ok (.getstatic 38, 3) := by decide +kernel
theorem dJ0_isLatin1_aae02_3 : decode cJ0_isLatin1_aae02 3 = .ok (.ifCond .eq 14, 3) := by decide +kernel
theorem dJ0_isLatin1_aae02_6 : decode cJ0_isLatin1_aae02 6 = .ok (.aload_n 0, 1) := by decide +kernel
theorem dJ0_isLatin1_aae02_7 : decode cJ0_isLatin1_aae02 7 = .ok (.getfield 15, 3) := by decide +kernel
theorem dJ0_isLatin1_aae02_10 : decode cJ0_isLatin1_aae02 10 = .ok (.ifCond .ne 7, 3) := by decide +kernel
theorem dJ0_isLatin1_aae02_13 : decode cJ0_isLatin1_aae02 13 = .ok (.iconst 1, 1) := by decide +kernel
theorem dJ0_isLatin1_aae02_14 : decode cJ0_isLatin1_aae02 14 = .ok (.goto 4, 3) := by decide +kernel
theorem dJ0_isLatin1_aae02_17 : decode cJ0_isLatin1_aae02 17 = .ok (.iconst 0, 1) := by decide +kernel
theorem dJ0_isLatin1_aae02_18 : decode cJ0_isLatin1_aae02 18 = .ok (.ireturn, 1) := by decide +kernel
theorem dJ0_checkIndex_df160_0 : decode cJ0_checkIndex_df160 0 = .ok (.iload_n 0, 1) := by decide +kernel
theorem dJ0_checkIndex_df160_1 : decode cJ0_checkIndex_df160 1 = .ok (.iload_n 1, 1) := by decide +kernel
theorem dJ0_checkIndex_df160_2 : decode cJ0_checkIndex_df160 2 = .ok (.getstatic 1053, 3) := by decide +kernel
theorem dJ0_checkIndex_df160_5 : decode cJ0_checkIndex_df160 5 = .ok (.invokestatic 1059, 3) := by decide +kernel
theorem dJ0_checkIndex_df160_8 : decode cJ0_checkIndex_df160 8 = .ok (.pop, 1) := by decide +kernel
theorem dJ0_checkIndex_df160_9 : decode cJ0_checkIndex_df160 9 = .ok (.return_, 1) := by decide +kernel
theorem dJ1_charAt_3b067_0 : decode cJ1_charAt_3b067 0 = .ok (.iload_n 1, 1) := by decide +kernel
theorem dJ1_charAt_3b067_1 : decode cJ1_charAt_3b067 1 = .ok (.aload_n 0, 1) := by decide +kernel
theorem dJ1_charAt_3b067_2 : decode cJ1_charAt_3b067 2 = .ok (.arraylength, 1) := by decide +kernel
theorem dJ1_charAt_3b067_3 : decode cJ1_charAt_3b067 3 = .ok (.invokestatic 9, 3) := by decide +kernel
theorem dJ1_charAt_3b067_6 : decode cJ1_charAt_3b067 6 = .ok (.aload_n 0, 1) := by decide +kernel
theorem dJ1_charAt_3b067_7 : decode cJ1_charAt_3b067 7 = .ok (.iload_n 1, 1) := by decide +kernel
theorem dJ1_charAt_3b067_8 : decode cJ1_charAt_3b067 8 = .ok (.baload, 1) := by decide +kernel
theorem dJ1_charAt_3b067_9 : decode cJ1_charAt_3b067 9 = .ok (.sipush 255, 3) := by decide +kernel
theorem dJ1_charAt_3b067_12 : decode cJ1_charAt_3b067 12 = .ok (.iand, 1) := by decide +kernel
theorem dJ1_charAt_3b067_13 : decode cJ1_charAt_3b067 13 = .ok (.i2c, 1) := by decide +kernel
theorem dJ1_charAt_3b067_14 : decode cJ1_charAt_3b067 14 = .ok (.ireturn, 1) := by decide +kernel
theorem dJ2_getChar_3b067_0 : decode cJ2_getChar_3b067 0 = .ok (.getstatic 44, 3) := by decide +kernel
theorem dJ2_getChar_3b067_3 : decode cJ2_getChar_3b067 3 = .ok (.ifCond .ne 25, 3) := by decide +kernel
theorem dJ2_getChar_3b067_6 : decode cJ2_getChar_3b067 6 = .ok (.iload_n 1, 1) := by decide +kernel
theorem dJ2_getChar_3b067_7 : decode cJ2_getChar_3b067 7 = .ok (.ifCond .lt 11, 3) := by decide +kernel
theorem dJ2_getChar_3b067_10 : decode cJ2_getChar_3b067 10 = .ok (.iload_n 1, 1) := by decide +kernel
theorem dJ2_getChar_3b067_11 : decode cJ2_getChar_3b067 11 = .ok (.aload_n 0, 1) := by decide +kernel
theorem dJ2_getChar_3b067_12 : decode cJ2_getChar_3b067 12 = .ok (.invokestatic 48, 3) := by decide +kernel
theorem dJ2_getChar_3b067_15 : decode cJ2_getChar_3b067 15 = .ok (.if_icmp .lt 13, 3) := by decide +kernel
theorem dJ2_getChar_3b067_18 : decode cJ2_getChar_3b067 18 = .ok (.new 52, 3) := by decide +kernel
theorem dJ2_getChar_3b067_21 : decode cJ2_getChar_3b067 21 = .ok (.dup, 1) := by decide +kernel
theorem dJ2_getChar_3b067_22 : decode cJ2_getChar_3b067 22 = .ok (.ldc 54, 2) := by decide +kernel
theorem dJ2_getChar_3b067_24 : decode cJ2_getChar_3b067 24 = .ok (.invokespecial 56, 3) := by decide +kernel
theorem dJ2_getChar_3b067_27 : decode cJ2_getChar_3b067 27 = .ok (.athrow, 1) := by decide +kernel
theorem dJ2_getChar_3b067_28 : decode cJ2_getChar_3b067 28 = .ok (.iload_n 1, 1) := by decide +kernel
theorem dJ2_getChar_3b067_29 : decode cJ2_getChar_3b067 29 = .ok (.iconst 1, 1) := by decide +kernel
theorem dJ2_getChar_3b067_30 : decode cJ2_getChar_3b067 30 = .ok (.ishl, 1) := by decide +kernel
theorem dJ2_getChar_3b067_31 : decode cJ2_getChar_3b067 31 = .ok (.istore_n 1, 1) := by decide +kernel
theorem dJ2_getChar_3b067_32 : decode cJ2_getChar_3b067 32 = .ok (.aload_n 0, 1) := by decide +kernel
theorem dJ2_getChar_3b067_33 : decode cJ2_getChar_3b067 33 = .ok (.iload_n 1, 1) := by decide +kernel
theorem dJ2_getChar_3b067_34 : decode cJ2_getChar_3b067 34 = .ok (.iinc 1 1, 3) := by decide +kernel
theorem dJ2_getChar_3b067_37 : decode cJ2_getChar_3b067 37 = .ok (.baload, 1) := by decide +kernel
theorem dJ2_getChar_3b067_38 : decode cJ2_getChar_3b067 38 = .ok (.sipush 255, 3) := by decide +kernel
theorem dJ2_getChar_3b067_41 : decode cJ2_getChar_3b067 41 = .ok (.iand, 1) := by decide +kernel
theorem dJ2_getChar_3b067_42 : decode cJ2_getChar_3b067 42 = .ok (.getstatic 59, 3) := by decide +kernel
theorem dJ2_getChar_3b067_45 : decode cJ2_getChar_3b067 45 = .ok (.ishl, 1) := by decide +kernel
theorem dJ2_getChar_3b067_46 : decode cJ2_getChar_3b067 46 = .ok (.aload_n 0, 1) := by decide +kernel
theorem dJ2_getChar_3b067_47 : decode cJ2_getChar_3b067 47 = .ok (.iload_n 1, 1) := by decide +kernel
theorem dJ2_getChar_3b067_48 : decode cJ2_getChar_3b067 48 = .ok (.baload, 1) := by decide +kernel
theorem dJ2_getChar_3b067_49 : decode cJ2_getChar_3b067 49 = .ok (.sipush 255, 3) := by decide +kernel
theorem dJ2_getChar_3b067_52 : decode cJ2_getChar_3b067 52 = .ok (.iand, 1) := by decide +kernel
theorem dJ2_getChar_3b067_53 : decode cJ2_getChar_3b067 53 = .ok (.getstatic 63, 3) := by decide +kernel
theorem dJ2_getChar_3b067_56 : decode cJ2_getChar_3b067 56 = .ok (.ishl, 1) := by decide +kernel
theorem dJ2_getChar_3b067_57 : decode cJ2_getChar_3b067 57 = .ok (.ior, 1) := by decide +kernel
theorem dJ2_getChar_3b067_58 : decode cJ2_getChar_3b067 58 = .ok (.i2c, 1) := by decide +kernel
theorem dJ2_getChar_3b067_59 : decode cJ2_getChar_3b067 59 = .ok (.ireturn, 1) := by decide +kernel
theorem dJ2_length_9d52b_0 : decode cJ2_length_9d52b 0 = .ok (.aload_n 0, 1) := by decide +kernel
theorem dJ2_length_9d52b_1 : decode cJ2_length_9d52b 1 = .ok (.arraylength, 1) := by decide +kernel
theorem dJ2_length_9d52b_2 : decode cJ2_length_9d52b 2 = .ok (.iconst 1, 1) := by decide +kernel
theorem dJ2_length_9d52b_3 : decode cJ2_length_9d52b 3 = .ok (.ishr, 1) := by decide +kernel
theorem dJ2_length_9d52b_4 : decode cJ2_length_9d52b 4 = .ok (.ireturn, 1) := by decide +kernel
theorem dJ2_charAt_3b067_0 : decode cJ2_charAt_3b067 0 = .ok (.iload_n 1, 1) := by decide +kernel
theorem dJ2_charAt_3b067_1 : decode cJ2_charAt_3b067 1 = .ok (.aload_n 0, 1) := by decide +kernel
theorem dJ2_charAt_3b067_2 : decode cJ2_charAt_3b067 2 = .ok (.invokestatic 67, 3) := by decide +kernel
theorem dJ2_charAt_3b067_5 : decode cJ2_charAt_3b067 5 = .ok (.aload_n 0, 1) := by decide +kernel
theorem dJ2_charAt_3b067_6 : decode cJ2_charAt_3b067 6 = .ok (.iload_n 1, 1) := by decide +kernel
theorem dJ2_charAt_3b067_7 : decode cJ2_charAt_3b067 7 = .ok (.invokestatic 71, 3) := by decide +kernel
theorem dJ2_charAt_3b067_10 : decode cJ2_charAt_3b067 10 = .ok (.ireturn, 1) := by decide +kernel
theorem dJ2_checkIndex_2214a_0 : decode cJ2_checkIndex_2214a 0 = .ok (.iload_n 0, 1) := by decide +kernel
theorem dJ2_checkIndex_2214a_1 : decode cJ2_checkIndex_2214a 1 = .ok (.aload_n 1, 1) := by decide +kernel
theorem dJ2_checkIndex_2214a_2 : decode cJ2_checkIndex_2214a 2 = .ok (.invokestatic 48, 3) := by decide +kernel
theorem dJ2_checkIndex_2214a_5 : decode cJ2_checkIndex_2214a 5 = .ok (.invokestatic 414, 3) := by decide +kernel
theorem dJ2_checkIndex_2214a_8 : decode cJ2_checkIndex_2214a 8 = .ok (.return_, 1) := by decide +kernel
theorem dJ3_checkIndex_8e157_0 : decode cJ3_checkIndex_8e157 0 = .ok (.iload_n 0, 1) := by decide +kernel
theorem dJ3_checkIndex_8e157_1 : decode cJ3_checkIndex_8e157 1 = .ok (.ifCond .lt 8, 3) := by decide +kernel
theorem dJ3_checkIndex_8e157_4 : decode cJ3_checkIndex_8e157 4 = .ok (.iload_n 0, 1) := by decide +kernel
theorem dJ3_checkIndex_8e157_5 : decode cJ3_checkIndex_8e157 5 = .ok (.iload_n 1, 1) := by decide +kernel
theorem dJ3_checkIndex_8e157_6 : decode cJ3_checkIndex_8e157 6 = .ok (.if_icmp .lt 10, 3) := by decide +kernel
theorem dJ3_checkIndex_8e157_9 : decode cJ3_checkIndex_8e157 9 = .ok (.aload_n 2, 1) := by decide +kernel
theorem dJ3_checkIndex_8e157_10 : decode cJ3_checkIndex_8e157 10 = .ok (.iload_n 0, 1) := by decide +kernel
theorem dJ3_checkIndex_8e157_11 : decode cJ3_checkIndex_8e157 11 = .ok (.iload_n 1, 1) := by decide +kernel
theorem dJ3_checkIndex_8e157_12 : decode cJ3_checkIndex_8e157 12 = .ok (.invokestatic 95, 3) := by decide +kernel
theorem dJ3_checkIndex_8e157_15 : decode cJ3_checkIndex_8e157 15 = .ok (.athrow, 1) := by decide +kernel
theorem dJ3_checkIndex_8e157_16 : decode cJ3_checkIndex_8e157 16 = .ok (.iload_n 0, 1) := by decide +kernel
theorem dJ3_checkIndex_8e157_17 : decode cJ3_checkIndex_8e157 17 = .ok (.ireturn, 1) := by decide +kernel
theorem dL_load_0 : decode cL_load 0 = .ok (.aload_n 2, 1) := by decide +kernel
theorem dL_load_1 : decode cL_load 1 = .ok (.iconst 0, 1) := by decide +kernel
theorem dL_load_2 : decode cL_load 2 = .ok (.aload_n 0, 1) := by decide +kernel
theorem dL_load_3 : decode cL_load 3 = .ok (.iload_n 1, 1) := by decide +kernel
theorem dL_load_4 : decode cL_load 4 = .ok (.invokevirtual 7, 3) := by decide +kernel
theorem dL_load_7 : decode cL_load 7 = .ok (.i2l, 1) := by decide +kernel
theorem dL_load_8 : decode cL_load 8 = .ok (.lastore, 1) := by decide +kernel
theorem dL_load_9 : decode cL_load 9 = .ok (.goto 6, 3) := by decide +kernel
theorem dL_load_12 : decode cL_load 12 = .ok (.astore_n 3, 1) := by decide +kernel
theorem dL_load_13 : decode cL_load 13 = .ok (.iconst 1, 1) := by decide +kernel
theorem dL_load_14 : decode cL_load 14 = .ok (.ireturn, 1) := by decide +kernel
theorem dL_load_15 : decode cL_load 15 = .ok (.iconst 0, 1) := by decide +kernel
theorem dL_load_16 : decode cL_load 16 = .ok (.ireturn, 1) := by decide +kernel
theorem dL_state_0 : decode cL_state 0 = .ok (.aload_n 2, 1) := by decide +kernel
theorem dL_state_1 : decode cL_state 1 = .ok (.iconst 0, 1) := by decide +kernel
theorem dL_state_2 : decode cL_state 2 = .ok (.aload_n 0, 1) := by decide +kernel
theorem dL_state_3 : decode cL_state 3 = .ok (.iload_n 1, 1) := by decide +kernel
theorem dL_state_4 : decode cL_state 4 = .ok (.invokevirtual 15, 3) := by decide +kernel
theorem dL_state_7 : decode cL_state 7 = .ok (.i2l, 1) := by decide +kernel
theorem dL_state_8 : decode cL_state 8 = .ok (.lastore, 1) := by decide +kernel
theorem dL_state_9 : decode cL_state 9 = .ok (.goto 6, 3) := by decide +kernel
theorem dL_state_12 : decode cL_state 12 = .ok (.astore_n 3, 1) := by decide +kernel
theorem dL_state_13 : decode cL_state 13 = .ok (.iconst 1, 1) := by decide +kernel
theorem dL_state_14 : decode cL_state 14 = .ok (.ireturn, 1) := by decide +kernel
theorem dL_state_15 : decode cL_state 15 = .ok (.iconst 0, 1) := by decide +kernel
theorem dL_state_16 : decode cL_state 16 = .ok (.ireturn, 1) := by decide +kernel
theorem dL_find_0 : decode cL_find 0 = .ok (.aload_n 2, 1) := by decide +kernel
theorem dL_find_1 : decode cL_find 1 = .ok (.iconst 0, 1) := by decide +kernel
theorem dL_find_2 : decode cL_find 2 = .ok (.aload_n 0, 1) := by decide +kernel
theorem dL_find_3 : decode cL_find 3 = .ok (.iload_n 1, 1) := by decide +kernel
theorem dL_find_4 : decode cL_find 4 = .ok (.invokevirtual 18, 3) := by decide +kernel
theorem dL_find_7 : decode cL_find 7 = .ok (.i2l, 1) := by decide +kernel
theorem dL_find_8 : decode cL_find 8 = .ok (.lastore, 1) := by decide +kernel
theorem dL_find_9 : decode cL_find 9 = .ok (.goto 6, 3) := by decide +kernel
theorem dL_find_12 : decode cL_find 12 = .ok (.astore_n 3, 1) := by decide +kernel
theorem dL_find_13 : decode cL_find 13 = .ok (.iconst 1, 1) := by decide +kernel
theorem dL_find_14 : decode cL_find 14 = .ok (.ireturn, 1) := by decide +kernel
theorem dL_find_15 : decode cL_find 15 = .ok (.iconst 0, 1) := by decide +kernel
theorem dL_find_16 : decode cL_find 16 = .ok (.ireturn, 1) := by decide +kernel
theorem dL_gate_0 : decode cL_gate 0 = .ok (.aload_n 3, 1) := by decide +kernel
theorem dL_gate_1 : decode cL_gate 1 = .ok (.iconst 0, 1) := by decide +kernel
theorem dL_gate_2 : decode cL_gate 2 = .ok (.aload_n 0, 1) := by decide +kernel
theorem dL_gate_3 : decode cL_gate 3 = .ok (.iload_n 1, 1) := by decide +kernel
theorem dL_gate_4 : decode cL_gate 4 = .ok (.iload_n 2, 1) := by decide +kernel
theorem dL_gate_5 : decode cL_gate 5 = .ok (.invokevirtual 21, 3) := by decide +kernel
theorem dL_gate_8 : decode cL_gate 8 = .ok (.i2l, 1) := by decide +kernel
theorem dL_gate_9 : decode cL_gate 9 = .ok (.lastore, 1) := by decide +kernel
theorem dL_gate_10 : decode cL_gate 10 = .ok (.goto 11, 3) := by decide +kernel
theorem dL_gate_13 : decode cL_gate 13 = .ok (.astore 4, 2) := by decide +kernel
theorem dL_gate_15 : decode cL_gate 15 = .ok (.iconst 1, 1) := by decide +kernel
theorem dL_gate_16 : decode cL_gate 16 = .ok (.ireturn, 1) := by decide +kernel
theorem dL_gate_17 : decode cL_gate 17 = .ok (.astore 4, 2) := by decide +kernel
theorem dL_gate_19 : decode cL_gate 19 = .ok (.iconst 2, 1) := by decide +kernel
theorem dL_gate_20 : decode cL_gate 20 = .ok (.ireturn, 1) := by decide +kernel
theorem dL_gate_21 : decode cL_gate 21 = .ok (.iconst 0, 1) := by decide +kernel
theorem dL_gate_22 : decode cL_gate 22 = .ok (.ireturn, 1) := by decide +kernel
theorem dL_card_0 : decode cL_card 0 = .ok (.aload_n 3, 1) := by decide +kernel
theorem dL_card_1 : decode cL_card 1 = .ok (.iconst 0, 1) := by decide +kernel
theorem dL_card_2 : decode cL_card 2 = .ok (.aload_n 0, 1) := by decide +kernel
theorem dL_card_3 : decode cL_card 3 = .ok (.iload_n 1, 1) := by decide +kernel
theorem dL_card_4 : decode cL_card 4 = .ok (.iload_n 2, 1) := by decide +kernel
theorem dL_card_5 : decode cL_card 5 = .ok (.invokevirtual 27, 3) := by decide +kernel
theorem dL_card_8 : decode cL_card 8 = .ok (.i2l, 1) := by decide +kernel
theorem dL_card_9 : decode cL_card 9 = .ok (.lastore, 1) := by decide +kernel
theorem dL_card_10 : decode cL_card 10 = .ok (.goto 11, 3) := by decide +kernel
theorem dL_card_13 : decode cL_card 13 = .ok (.astore 4, 2) := by decide +kernel
theorem dL_card_15 : decode cL_card 15 = .ok (.iconst 1, 1) := by decide +kernel
theorem dL_card_16 : decode cL_card 16 = .ok (.ireturn, 1) := by decide +kernel
theorem dL_card_17 : decode cL_card 17 = .ok (.astore 4, 2) := by decide +kernel
theorem dL_card_19 : decode cL_card 19 = .ok (.iconst 2, 1) := by decide +kernel
theorem dL_card_20 : decode cL_card 20 = .ok (.ireturn, 1) := by decide +kernel
theorem dL_card_21 : decode cL_card 21 = .ok (.iconst 0, 1) := by decide +kernel
theorem dL_card_22 : decode cL_card 22 = .ok (.ireturn, 1) := by decide +kernel
theorem dL_inLine_0 : decode cL_inLine 0 = .ok (.aload 4, 2) := by decide +kernel
theorem dL_inLine_2 : decode cL_inLine 2 = .ok (.iconst 0, 1) := by decide +kernel
theorem dL_inLine_3 : decode cL_inLine 3 = .ok (.aload_n 0, 1) := by decide +kernel
theorem dL_inLine_4 : decode cL_inLine 4 = .ok (.iload_n 1, 1) := by decide +kernel
theorem dL_inLine_5 : decode cL_inLine 5 = .ok (.iload_n 2, 1) := by decide +kernel
theorem dL_inLine_6 : decode cL_inLine 6 = .ok (.iload_n 3, 1) := by decide +kernel
theorem dL_inLine_7 : decode cL_inLine 7 = .ok (.invokevirtual 30, 3) := by decide +kernel
theorem dL_inLine_10 : decode cL_inLine 10 = .ok (.i2l, 1) := by decide +kernel
theorem dL_inLine_11 : decode cL_inLine 11 = .ok (.lastore, 1) := by decide +kernel
theorem dL_inLine_12 : decode cL_inLine 12 = .ok (.goto 15, 3) := by decide +kernel
theorem dL_inLine_15 : decode cL_inLine 15 = .ok (.astore 5, 2) := by decide +kernel
theorem dL_inLine_17 : decode cL_inLine 17 = .ok (.iconst 1, 1) := by decide +kernel
theorem dL_inLine_18 : decode cL_inLine 18 = .ok (.ireturn, 1) := by decide +kernel
theorem dL_inLine_19 : decode cL_inLine 19 = .ok (.astore 5, 2) := by decide +kernel
theorem dL_inLine_21 : decode cL_inLine 21 = .ok (.iconst 2, 1) := by decide +kernel
theorem dL_inLine_22 : decode cL_inLine 22 = .ok (.ireturn, 1) := by decide +kernel
theorem dL_inLine_23 : decode cL_inLine 23 = .ok (.astore 5, 2) := by decide +kernel
theorem dL_inLine_25 : decode cL_inLine 25 = .ok (.iconst 3, 1) := by decide +kernel
theorem dL_inLine_26 : decode cL_inLine 26 = .ok (.ireturn, 1) := by decide +kernel
theorem dL_inLine_27 : decode cL_inLine 27 = .ok (.iconst 0, 1) := by decide +kernel
theorem dL_inLine_28 : decode cL_inLine 28 = .ok (.ireturn, 1) := by decide +kernel
theorem dL_why_0 : decode cL_why 0 = .ok (.aload_n 3, 1) := by decide +kernel
theorem dL_why_1 : decode cL_why 1 = .ok (.iconst 0, 1) := by decide +kernel
theorem dL_why_2 : decode cL_why 2 = .ok (.aload_n 0, 1) := by decide +kernel
theorem dL_why_3 : decode cL_why 3 = .ok (.iload_n 1, 1) := by decide +kernel
theorem dL_why_4 : decode cL_why 4 = .ok (.iload_n 2, 1) := by decide +kernel
theorem dL_why_5 : decode cL_why 5 = .ok (.invokevirtual 36, 3) := by decide +kernel
theorem dL_why_8 : decode cL_why 8 = .ok (.i2l, 1) := by decide +kernel
theorem dL_why_9 : decode cL_why 9 = .ok (.lastore, 1) := by decide +kernel
theorem dL_why_10 : decode cL_why 10 = .ok (.goto 11, 3) := by decide +kernel
theorem dL_why_13 : decode cL_why 13 = .ok (.astore 4, 2) := by decide +kernel
theorem dL_why_15 : decode cL_why 15 = .ok (.iconst 1, 1) := by decide +kernel
theorem dL_why_16 : decode cL_why 16 = .ok (.ireturn, 1) := by decide +kernel
theorem dL_why_17 : decode cL_why 17 = .ok (.astore 4, 2) := by decide +kernel
theorem dL_why_19 : decode cL_why 19 = .ok (.iconst 2, 1) := by decide +kernel
theorem dL_why_20 : decode cL_why 20 = .ok (.ireturn, 1) := by decide +kernel
theorem dL_why_21 : decode cL_why 21 = .ok (.iconst 0, 1) := by decide +kernel
theorem dL_why_22 : decode cL_why 22 = .ok (.ireturn, 1) := by decide +kernel
theorem dL_whyNotJoin_0 : decode cL_whyNotJoin 0 = .ok (.aload 4, 2) := by decide +kernel
theorem dL_whyNotJoin_2 : decode cL_whyNotJoin 2 = .ok (.iconst 0, 1) := by decide +kernel
theorem dL_whyNotJoin_3 : decode cL_whyNotJoin 3 = .ok (.aload_n 0, 1) := by decide +kernel
theorem dL_whyNotJoin_4 : decode cL_whyNotJoin 4 = .ok (.iload_n 1, 1) := by decide +kernel
theorem dL_whyNotJoin_5 : decode cL_whyNotJoin 5 = .ok (.iload_n 2, 1) := by decide +kernel
theorem dL_whyNotJoin_6 : decode cL_whyNotJoin 6 = .ok (.iload_n 3, 1) := by decide +kernel
theorem dL_whyNotJoin_7 : decode cL_whyNotJoin 7 = .ok (.invokevirtual 39, 3) := by decide +kernel
theorem dL_whyNotJoin_10 : decode cL_whyNotJoin 10 = .ok (.i2l, 1) := by decide +kernel
theorem dL_whyNotJoin_11 : decode cL_whyNotJoin 11 = .ok (.lastore, 1) := by decide +kernel
theorem dL_whyNotJoin_12 : decode cL_whyNotJoin 12 = .ok (.goto 11, 3) := by decide +kernel
theorem dL_whyNotJoin_15 : decode cL_whyNotJoin 15 = .ok (.astore 5, 2) := by decide +kernel
theorem dL_whyNotJoin_17 : decode cL_whyNotJoin 17 = .ok (.iconst 1, 1) := by decide +kernel
theorem dL_whyNotJoin_18 : decode cL_whyNotJoin 18 = .ok (.ireturn, 1) := by decide +kernel
theorem dL_whyNotJoin_19 : decode cL_whyNotJoin 19 = .ok (.astore 5, 2) := by decide +kernel
theorem dL_whyNotJoin_21 : decode cL_whyNotJoin 21 = .ok (.iconst 2, 1) := by decide +kernel
theorem dL_whyNotJoin_22 : decode cL_whyNotJoin 22 = .ok (.ireturn, 1) := by decide +kernel
theorem dL_whyNotJoin_23 : decode cL_whyNotJoin 23 = .ok (.iconst 0, 1) := by decide +kernel
theorem dL_whyNotJoin_24 : decode cL_whyNotJoin 24 = .ok (.ireturn, 1) := by decide +kernel
theorem dL_bestGate_0 : decode cL_bestGate 0 = .ok (.aload_n 2, 1) := by decide +kernel
theorem dL_bestGate_1 : decode cL_bestGate 1 = .ok (.iconst 0, 1) := by decide +kernel
theorem dL_bestGate_2 : decode cL_bestGate 2 = .ok (.aload_n 0, 1) := by decide +kernel
theorem dL_bestGate_3 : decode cL_bestGate 3 = .ok (.iload_n 1, 1) := by decide +kernel
theorem dL_bestGate_4 : decode cL_bestGate 4 = .ok (.invokevirtual 42, 3) := by decide +kernel
theorem dL_bestGate_7 : decode cL_bestGate 7 = .ok (.i2l, 1) := by decide +kernel
theorem dL_bestGate_8 : decode cL_bestGate 8 = .ok (.lastore, 1) := by decide +kernel
theorem dL_bestGate_9 : decode cL_bestGate 9 = .ok (.goto 6, 3) := by decide +kernel
theorem dL_bestGate_12 : decode cL_bestGate 12 = .ok (.astore_n 3, 1) := by decide +kernel
theorem dL_bestGate_13 : decode cL_bestGate 13 = .ok (.iconst 1, 1) := by decide +kernel
theorem dL_bestGate_14 : decode cL_bestGate 14 = .ok (.ireturn, 1) := by decide +kernel
theorem dL_bestGate_15 : decode cL_bestGate 15 = .ok (.iconst 0, 1) := by decide +kernel
theorem dL_bestGate_16 : decode cL_bestGate 16 = .ok (.ireturn, 1) := by decide +kernel
theorem dL_nextSide_0 : decode cL_nextSide 0 = .ok (.aload_n 2, 1) := by decide +kernel
theorem dL_nextSide_1 : decode cL_nextSide 1 = .ok (.iconst 0, 1) := by decide +kernel
theorem dL_nextSide_2 : decode cL_nextSide 2 = .ok (.aload_n 0, 1) := by decide +kernel
theorem dL_nextSide_3 : decode cL_nextSide 3 = .ok (.iload_n 1, 1) := by decide +kernel
theorem dL_nextSide_4 : decode cL_nextSide 4 = .ok (.invokevirtual 45, 3) := by decide +kernel
theorem dL_nextSide_7 : decode cL_nextSide 7 = .ok (.i2l, 1) := by decide +kernel
theorem dL_nextSide_8 : decode cL_nextSide 8 = .ok (.lastore, 1) := by decide +kernel
theorem dL_nextSide_9 : decode cL_nextSide 9 = .ok (.goto 6, 3) := by decide +kernel
theorem dL_nextSide_12 : decode cL_nextSide 12 = .ok (.astore_n 3, 1) := by decide +kernel
theorem dL_nextSide_13 : decode cL_nextSide 13 = .ok (.iconst 1, 1) := by decide +kernel
theorem dL_nextSide_14 : decode cL_nextSide 14 = .ok (.ireturn, 1) := by decide +kernel
theorem dL_nextSide_15 : decode cL_nextSide 15 = .ok (.iconst 0, 1) := by decide +kernel
theorem dL_nextSide_16 : decode cL_nextSide 16 = .ok (.ireturn, 1) := by decide +kernel
theorem dL_throughIn_0 : decode cL_throughIn 0 = .ok (.aload_n 2, 1) := by decide +kernel
theorem dL_throughIn_1 : decode cL_throughIn 1 = .ok (.iconst 0, 1) := by decide +kernel
theorem dL_throughIn_2 : decode cL_throughIn 2 = .ok (.aload_n 0, 1) := by decide +kernel
theorem dL_throughIn_3 : decode cL_throughIn 3 = .ok (.iload_n 1, 1) := by decide +kernel
theorem dL_throughIn_4 : decode cL_throughIn 4 = .ok (.invokevirtual 48, 3) := by decide +kernel
theorem dL_throughIn_7 : decode cL_throughIn 7 = .ok (.i2l, 1) := by decide +kernel
theorem dL_throughIn_8 : decode cL_throughIn 8 = .ok (.lastore, 1) := by decide +kernel
theorem dL_throughIn_9 : decode cL_throughIn 9 = .ok (.goto 6, 3) := by decide +kernel
theorem dL_throughIn_12 : decode cL_throughIn 12 = .ok (.astore_n 3, 1) := by decide +kernel
theorem dL_throughIn_13 : decode cL_throughIn 13 = .ok (.iconst 1, 1) := by decide +kernel
theorem dL_throughIn_14 : decode cL_throughIn 14 = .ok (.ireturn, 1) := by decide +kernel
theorem dL_throughIn_15 : decode cL_throughIn 15 = .ok (.iconst 0, 1) := by decide +kernel
theorem dL_throughIn_16 : decode cL_throughIn 16 = .ok (.ireturn, 1) := by decide +kernel
theorem dL_insideIn_0 : decode cL_insideIn 0 = .ok (.aload_n 2, 1) := by decide +kernel
theorem dL_insideIn_1 : decode cL_insideIn 1 = .ok (.iconst 0, 1) := by decide +kernel
theorem dL_insideIn_2 : decode cL_insideIn 2 = .ok (.aload_n 0, 1) := by decide +kernel
theorem dL_insideIn_3 : decode cL_insideIn 3 = .ok (.iload_n 1, 1) := by decide +kernel
theorem dL_insideIn_4 : decode cL_insideIn 4 = .ok (.invokevirtual 51, 3) := by decide +kernel
theorem dL_insideIn_7 : decode cL_insideIn 7 = .ok (.i2l, 1) := by decide +kernel
theorem dL_insideIn_8 : decode cL_insideIn 8 = .ok (.lastore, 1) := by decide +kernel
theorem dL_insideIn_9 : decode cL_insideIn 9 = .ok (.goto 6, 3) := by decide +kernel
theorem dL_insideIn_12 : decode cL_insideIn 12 = .ok (.astore_n 3, 1) := by decide +kernel
theorem dL_insideIn_13 : decode cL_insideIn 13 = .ok (.iconst 1, 1) := by decide +kernel
theorem dL_insideIn_14 : decode cL_insideIn 14 = .ok (.ireturn, 1) := by decide +kernel
theorem dL_insideIn_15 : decode cL_insideIn 15 = .ok (.iconst 0, 1) := by decide +kernel
theorem dL_insideIn_16 : decode cL_insideIn 16 = .ok (.ireturn, 1) := by decide +kernel
theorem dL_followersIn_0 : decode cL_followersIn 0 = .ok (.aload_n 2, 1) := by decide +kernel
theorem dL_followersIn_1 : decode cL_followersIn 1 = .ok (.iconst 0, 1) := by decide +kernel
theorem dL_followersIn_2 : decode cL_followersIn 2 = .ok (.aload_n 0, 1) := by decide +kernel
theorem dL_followersIn_3 : decode cL_followersIn 3 = .ok (.iload_n 1, 1) := by decide +kernel
theorem dL_followersIn_4 : decode cL_followersIn 4 = .ok (.invokevirtual 54, 3) := by decide +kernel
theorem dL_followersIn_7 : decode cL_followersIn 7 = .ok (.i2l, 1) := by decide +kernel
theorem dL_followersIn_8 : decode cL_followersIn 8 = .ok (.lastore, 1) := by decide +kernel
theorem dL_followersIn_9 : decode cL_followersIn 9 = .ok (.goto 6, 3) := by decide +kernel
theorem dL_followersIn_12 : decode cL_followersIn 12 = .ok (.astore_n 3, 1) := by decide +kernel
theorem dL_followersIn_13 : decode cL_followersIn 13 = .ok (.iconst 1, 1) := by decide +kernel
theorem dL_followersIn_14 : decode cL_followersIn 14 = .ok (.ireturn, 1) := by decide +kernel
theorem dL_followersIn_15 : decode cL_followersIn 15 = .ok (.iconst 0, 1) := by decide +kernel
theorem dL_followersIn_16 : decode cL_followersIn 16 = .ok (.ireturn, 1) := by decide +kernel
theorem dL_ranked_0 : decode cL_ranked 0 = .ok (.aload_n 2, 1) := by decide +kernel
theorem dL_ranked_1 : decode cL_ranked 1 = .ok (.iconst 0, 1) := by decide +kernel
theorem dL_ranked_2 : decode cL_ranked 2 = .ok (.aload_n 0, 1) := by decide +kernel
theorem dL_ranked_3 : decode cL_ranked 3 = .ok (.iload_n 1, 1) := by decide +kernel
theorem dL_ranked_4 : decode cL_ranked 4 = .ok (.invokevirtual 57, 3) := by decide +kernel
theorem dL_ranked_7 : decode cL_ranked 7 = .ok (.i2l, 1) := by decide +kernel
theorem dL_ranked_8 : decode cL_ranked 8 = .ok (.lastore, 1) := by decide +kernel
theorem dL_ranked_9 : decode cL_ranked 9 = .ok (.goto 6, 3) := by decide +kernel
theorem dL_ranked_12 : decode cL_ranked 12 = .ok (.astore_n 3, 1) := by decide +kernel
theorem dL_ranked_13 : decode cL_ranked 13 = .ok (.iconst 1, 1) := by decide +kernel
theorem dL_ranked_14 : decode cL_ranked 14 = .ok (.ireturn, 1) := by decide +kernel
theorem dL_ranked_15 : decode cL_ranked 15 = .ok (.iconst 0, 1) := by decide +kernel
theorem dL_ranked_16 : decode cL_ranked 16 = .ok (.ireturn, 1) := by decide +kernel
theorem dL_join_0 : decode cL_join 0 = .ok (.aload 4, 2) := by decide +kernel
theorem dL_join_2 : decode cL_join 2 = .ok (.iconst 0, 1) := by decide +kernel
theorem dL_join_3 : decode cL_join 3 = .ok (.aload_n 0, 1) := by decide +kernel
theorem dL_join_4 : decode cL_join 4 = .ok (.iload_n 1, 1) := by decide +kernel
theorem dL_join_5 : decode cL_join 5 = .ok (.iload_n 2, 1) := by decide +kernel
theorem dL_join_6 : decode cL_join 6 = .ok (.iload_n 3, 1) := by decide +kernel
theorem dL_join_7 : decode cL_join 7 = .ok (.invokevirtual 60, 3) := by decide +kernel
theorem dL_join_10 : decode cL_join 10 = .ok (.i2l, 1) := by decide +kernel
theorem dL_join_11 : decode cL_join 11 = .ok (.lastore, 1) := by decide +kernel
theorem dL_join_12 : decode cL_join 12 = .ok (.goto 11, 3) := by decide +kernel
theorem dL_join_15 : decode cL_join 15 = .ok (.astore 5, 2) := by decide +kernel
theorem dL_join_17 : decode cL_join 17 = .ok (.iconst 1, 1) := by decide +kernel
theorem dL_join_18 : decode cL_join 18 = .ok (.ireturn, 1) := by decide +kernel
theorem dL_join_19 : decode cL_join 19 = .ok (.astore 5, 2) := by decide +kernel
theorem dL_join_21 : decode cL_join 21 = .ok (.iconst 2, 1) := by decide +kernel
theorem dL_join_22 : decode cL_join 22 = .ok (.ireturn, 1) := by decide +kernel
theorem dL_join_23 : decode cL_join 23 = .ok (.iconst 0, 1) := by decide +kernel
theorem dL_join_24 : decode cL_join 24 = .ok (.ireturn, 1) := by decide +kernel
theorem dL_leave_0 : decode cL_leave 0 = .ok (.aload 4, 2) := by decide +kernel
theorem dL_leave_2 : decode cL_leave 2 = .ok (.iconst 0, 1) := by decide +kernel
theorem dL_leave_3 : decode cL_leave 3 = .ok (.aload_n 0, 1) := by decide +kernel
theorem dL_leave_4 : decode cL_leave 4 = .ok (.iload_n 1, 1) := by decide +kernel
theorem dL_leave_5 : decode cL_leave 5 = .ok (.iload_n 2, 1) := by decide +kernel
theorem dL_leave_6 : decode cL_leave 6 = .ok (.iload_n 3, 1) := by decide +kernel
theorem dL_leave_7 : decode cL_leave 7 = .ok (.invokevirtual 63, 3) := by decide +kernel
theorem dL_leave_10 : decode cL_leave 10 = .ok (.i2l, 1) := by decide +kernel
theorem dL_leave_11 : decode cL_leave 11 = .ok (.lastore, 1) := by decide +kernel
theorem dL_leave_12 : decode cL_leave 12 = .ok (.goto 19, 3) := by decide +kernel
theorem dL_leave_15 : decode cL_leave 15 = .ok (.astore 5, 2) := by decide +kernel
theorem dL_leave_17 : decode cL_leave 17 = .ok (.iconst 1, 1) := by decide +kernel
theorem dL_leave_18 : decode cL_leave 18 = .ok (.ireturn, 1) := by decide +kernel
theorem dL_leave_19 : decode cL_leave 19 = .ok (.astore 5, 2) := by decide +kernel
theorem dL_leave_21 : decode cL_leave 21 = .ok (.iconst 2, 1) := by decide +kernel
theorem dL_leave_22 : decode cL_leave 22 = .ok (.ireturn, 1) := by decide +kernel
theorem dL_leave_23 : decode cL_leave 23 = .ok (.astore 5, 2) := by decide +kernel
theorem dL_leave_25 : decode cL_leave 25 = .ok (.iconst 3, 1) := by decide +kernel
theorem dL_leave_26 : decode cL_leave 26 = .ok (.ireturn, 1) := by decide +kernel
theorem dL_leave_27 : decode cL_leave 27 = .ok (.astore 5, 2) := by decide +kernel
theorem dL_leave_29 : decode cL_leave 29 = .ok (.iconst 4, 1) := by decide +kernel
theorem dL_leave_30 : decode cL_leave 30 = .ok (.ireturn, 1) := by decide +kernel
theorem dL_leave_31 : decode cL_leave 31 = .ok (.iconst 0, 1) := by decide +kernel
theorem dL_leave_32 : decode cL_leave 32 = .ok (.ireturn, 1) := by decide +kernel
theorem dL_list_0 : decode cL_list 0 = .ok (.aload_n 3, 1) := by decide +kernel
theorem dL_list_1 : decode cL_list 1 = .ok (.iconst 0, 1) := by decide +kernel
theorem dL_list_2 : decode cL_list 2 = .ok (.aload_n 0, 1) := by decide +kernel
theorem dL_list_3 : decode cL_list 3 = .ok (.iload_n 1, 1) := by decide +kernel
theorem dL_list_4 : decode cL_list 4 = .ok (.iload_n 2, 1) := by decide +kernel
theorem dL_list_5 : decode cL_list 5 = .ok (.invokevirtual 68, 3) := by decide +kernel
theorem dL_list_8 : decode cL_list 8 = .ok (.i2l, 1) := by decide +kernel
theorem dL_list_9 : decode cL_list 9 = .ok (.lastore, 1) := by decide +kernel
theorem dL_list_10 : decode cL_list 10 = .ok (.goto 7, 3) := by decide +kernel
theorem dL_list_13 : decode cL_list 13 = .ok (.astore 4, 2) := by decide +kernel
theorem dL_list_15 : decode cL_list 15 = .ok (.iconst 1, 1) := by decide +kernel
theorem dL_list_16 : decode cL_list 16 = .ok (.ireturn, 1) := by decide +kernel
theorem dL_list_17 : decode cL_list 17 = .ok (.iconst 0, 1) := by decide +kernel
theorem dL_list_18 : decode cL_list 18 = .ok (.ireturn, 1) := by decide +kernel
theorem dL_charge_0 : decode cL_charge 0 = .ok (.aload_n 3, 1) := by decide +kernel
theorem dL_charge_1 : decode cL_charge 1 = .ok (.iconst 0, 1) := by decide +kernel
theorem dL_charge_2 : decode cL_charge 2 = .ok (.aload_n 0, 1) := by decide +kernel
theorem dL_charge_3 : decode cL_charge 3 = .ok (.iload_n 1, 1) := by decide +kernel
theorem dL_charge_4 : decode cL_charge 4 = .ok (.iload_n 2, 1) := by decide +kernel
theorem dL_charge_5 : decode cL_charge 5 = .ok (.invokevirtual 72, 3) := by decide +kernel
theorem dL_charge_8 : decode cL_charge 8 = .ok (.i2l, 1) := by decide +kernel
theorem dL_charge_9 : decode cL_charge 9 = .ok (.lastore, 1) := by decide +kernel
theorem dL_charge_10 : decode cL_charge 10 = .ok (.goto 15, 3) := by decide +kernel
theorem dL_charge_13 : decode cL_charge 13 = .ok (.astore 4, 2) := by decide +kernel
theorem dL_charge_15 : decode cL_charge 15 = .ok (.iconst 1, 1) := by decide +kernel
theorem dL_charge_16 : decode cL_charge 16 = .ok (.ireturn, 1) := by decide +kernel
theorem dL_charge_17 : decode cL_charge 17 = .ok (.astore 4, 2) := by decide +kernel
theorem dL_charge_19 : decode cL_charge 19 = .ok (.iconst 2, 1) := by decide +kernel
theorem dL_charge_20 : decode cL_charge 20 = .ok (.ireturn, 1) := by decide +kernel
theorem dL_charge_21 : decode cL_charge 21 = .ok (.astore 4, 2) := by decide +kernel
theorem dL_charge_23 : decode cL_charge 23 = .ok (.iconst 3, 1) := by decide +kernel
theorem dL_charge_24 : decode cL_charge 24 = .ok (.ireturn, 1) := by decide +kernel
theorem dL_charge_25 : decode cL_charge 25 = .ok (.iconst 0, 1) := by decide +kernel
theorem dL_charge_26 : decode cL_charge 26 = .ok (.ireturn, 1) := by decide +kernel
theorem dL_mode_0 : decode cL_mode 0 = .ok (.aload_n 3, 1) := by decide +kernel
theorem dL_mode_1 : decode cL_mode 1 = .ok (.iconst 0, 1) := by decide +kernel
theorem dL_mode_2 : decode cL_mode 2 = .ok (.aload_n 0, 1) := by decide +kernel
theorem dL_mode_3 : decode cL_mode 3 = .ok (.iload_n 1, 1) := by decide +kernel
theorem dL_mode_4 : decode cL_mode 4 = .ok (.iload_n 2, 1) := by decide +kernel
theorem dL_mode_5 : decode cL_mode 5 = .ok (.invokevirtual 75, 3) := by decide +kernel
theorem dL_mode_8 : decode cL_mode 8 = .ok (.i2l, 1) := by decide +kernel
theorem dL_mode_9 : decode cL_mode 9 = .ok (.lastore, 1) := by decide +kernel
theorem dL_mode_10 : decode cL_mode 10 = .ok (.goto 15, 3) := by decide +kernel
theorem dL_mode_13 : decode cL_mode 13 = .ok (.astore 4, 2) := by decide +kernel
theorem dL_mode_15 : decode cL_mode 15 = .ok (.iconst 1, 1) := by decide +kernel
theorem dL_mode_16 : decode cL_mode 16 = .ok (.ireturn, 1) := by decide +kernel
theorem dL_mode_17 : decode cL_mode 17 = .ok (.astore 4, 2) := by decide +kernel
theorem dL_mode_19 : decode cL_mode 19 = .ok (.iconst 2, 1) := by decide +kernel
theorem dL_mode_20 : decode cL_mode 20 = .ok (.ireturn, 1) := by decide +kernel
theorem dL_mode_21 : decode cL_mode 21 = .ok (.astore 4, 2) := by decide +kernel
theorem dL_mode_23 : decode cL_mode 23 = .ok (.iconst 3, 1) := by decide +kernel
theorem dL_mode_24 : decode cL_mode 24 = .ok (.ireturn, 1) := by decide +kernel
theorem dL_mode_25 : decode cL_mode 25 = .ok (.iconst 0, 1) := by decide +kernel
theorem dL_mode_26 : decode cL_mode 26 = .ok (.ireturn, 1) := by decide +kernel
theorem dL_key_0 : decode cL_key 0 = .ok (.aload_n 2, 1) := by decide +kernel
theorem dL_key_1 : decode cL_key 1 = .ok (.iconst 0, 1) := by decide +kernel
theorem dL_key_2 : decode cL_key 2 = .ok (.aload_n 0, 1) := by decide +kernel
theorem dL_key_3 : decode cL_key 3 = .ok (.iload_n 1, 1) := by decide +kernel
theorem dL_key_4 : decode cL_key 4 = .ok (.invokevirtual 78, 3) := by decide +kernel
theorem dL_key_7 : decode cL_key 7 = .ok (.i2l, 1) := by decide +kernel
theorem dL_key_8 : decode cL_key 8 = .ok (.lastore, 1) := by decide +kernel
theorem dL_key_9 : decode cL_key 9 = .ok (.goto 6, 3) := by decide +kernel
theorem dL_key_12 : decode cL_key 12 = .ok (.astore_n 3, 1) := by decide +kernel
theorem dL_key_13 : decode cL_key 13 = .ok (.iconst 1, 1) := by decide +kernel
theorem dL_key_14 : decode cL_key 14 = .ok (.ireturn, 1) := by decide +kernel
theorem dL_key_15 : decode cL_key 15 = .ok (.iconst 0, 1) := by decide +kernel
theorem dL_key_16 : decode cL_key 16 = .ok (.ireturn, 1) := by decide +kernel
theorem dL_tick_0 : decode cL_tick 0 = .ok (.aload_n 2, 1) := by decide +kernel
theorem dL_tick_1 : decode cL_tick 1 = .ok (.iconst 0, 1) := by decide +kernel
theorem dL_tick_2 : decode cL_tick 2 = .ok (.aload_n 0, 1) := by decide +kernel
theorem dL_tick_3 : decode cL_tick 3 = .ok (.iload_n 1, 1) := by decide +kernel
theorem dL_tick_4 : decode cL_tick 4 = .ok (.invokevirtual 81, 3) := by decide +kernel
theorem dL_tick_7 : decode cL_tick 7 = .ok (.i2l, 1) := by decide +kernel
theorem dL_tick_8 : decode cL_tick 8 = .ok (.lastore, 1) := by decide +kernel
theorem dL_tick_9 : decode cL_tick 9 = .ok (.goto 6, 3) := by decide +kernel
theorem dL_tick_12 : decode cL_tick 12 = .ok (.astore_n 3, 1) := by decide +kernel
theorem dL_tick_13 : decode cL_tick 13 = .ok (.iconst 1, 1) := by decide +kernel
theorem dL_tick_14 : decode cL_tick 14 = .ok (.ireturn, 1) := by decide +kernel
theorem dL_tick_15 : decode cL_tick 15 = .ok (.iconst 0, 1) := by decide +kernel
theorem dL_tick_16 : decode cL_tick 16 = .ok (.ireturn, 1) := by decide +kernel
theorem dL_law_0 : decode cL_law 0 = .ok (.new 8, 3) := by decide +kernel
theorem dL_law_3 : decode cL_law 3 = .ok (.dup, 1) := by decide +kernel
theorem dL_law_4 : decode cL_law 4 = .ok (.invokespecial 84, 3) := by decide +kernel
theorem dL_law_7 : decode cL_law 7 = .ok (.astore_n 1, 1) := by decide +kernel
theorem dL_law_8 : decode cL_law 8 = .ok (.new 85, 3) := by decide +kernel
theorem dL_law_11 : decode cL_law 11 = .ok (.dup, 1) := by decide +kernel
theorem dL_law_12 : decode cL_law 12 = .ok (.invokespecial 87, 3) := by decide +kernel
theorem dL_law_15 : decode cL_law 15 = .ok (.astore_n 2, 1) := by decide +kernel
theorem dL_law_16 : decode cL_law 16 = .ok (.iconst 1, 1) := by decide +kernel
theorem dL_law_17 : decode cL_law 17 = .ok (.newarray .long, 2) := by decide +kernel
theorem dL_law_19 : decode cL_law 19 = .ok (.astore_n 3, 1) := by decide +kernel
theorem dL_law_20 : decode cL_law 20 = .ok (.iconst 0, 1) := by decide +kernel
theorem dL_law_21 : decode cL_law 21 = .ok (.istore 4, 2) := by decide +kernel
theorem dL_law_23 : decode cL_law 23 = .ok (.iload 4, 2) := by decide +kernel
theorem dL_law_25 : decode cL_law 25 = .ok (.aload_n 0, 1) := by decide +kernel
theorem dL_law_26 : decode cL_law 26 = .ok (.arraylength, 1) := by decide +kernel
theorem dL_law_27 : decode cL_law 27 = .ok (.bipush 6, 2) := by decide +kernel
theorem dL_law_29 : decode cL_law 29 = .ok (.isub, 1) := by decide +kernel
theorem dL_law_30 : decode cL_law 30 = .ok (.if_icmp .gt 1686, 3) := by decide +kernel
theorem dL_law_33 : decode cL_law 33 = .ok (.aload_n 0, 1) := by decide +kernel
theorem dL_law_34 : decode cL_law 34 = .ok (.iload 4, 2) := by decide +kernel
theorem dL_law_36 : decode cL_law 36 = .ok (.iaload, 1) := by decide +kernel
theorem dL_law_37 : decode cL_law 37 = .ok (.bipush 31, 2) := by decide +kernel
theorem dL_law_39 : decode cL_law 39 = .ok (.iand, 1) := by decide +kernel
theorem dL_law_40 : decode cL_law 40 = .ok (.tableswitch 1670 0 27 #[128, 201, 257, 270, 326, 382, 450, 518, 598, 666, 746, 802, 858, 914, 970, 1026, 1039, 1095, 1108, 1151, 1231, 1311, 1395, 1463, 1531, 1587, 1643, 1656], 128) := by decide +kernel
theorem dL_law_168 : decode cL_law 168 = .ok (.aload_n 1, 1) := by decide +kernel
theorem dL_law_169 : decode cL_law 169 = .ok (.aload_n 0, 1) := by decide +kernel
theorem dL_law_170 : decode cL_law 170 = .ok (.iload 4, 2) := by decide +kernel
theorem dL_law_172 : decode cL_law 172 = .ok (.iconst 1, 1) := by decide +kernel
theorem dL_law_173 : decode cL_law 173 = .ok (.iadd, 1) := by decide +kernel
theorem dL_law_174 : decode cL_law 174 = .ok (.iaload, 1) := by decide +kernel
theorem dL_law_175 : decode cL_law 175 = .ok (.aload_n 0, 1) := by decide +kernel
theorem dL_law_176 : decode cL_law 176 = .ok (.iload 4, 2) := by decide +kernel
theorem dL_law_178 : decode cL_law 178 = .ok (.iconst 2, 1) := by decide +kernel
theorem dL_law_179 : decode cL_law 179 = .ok (.iadd, 1) := by decide +kernel
theorem dL_law_180 : decode cL_law 180 = .ok (.iaload, 1) := by decide +kernel
theorem dL_law_181 : decode cL_law 181 = .ok (.aload_n 0, 1) := by decide +kernel
theorem dL_law_182 : decode cL_law 182 = .ok (.iload 4, 2) := by decide +kernel
theorem dL_law_184 : decode cL_law 184 = .ok (.iconst 3, 1) := by decide +kernel
theorem dL_law_185 : decode cL_law 185 = .ok (.iadd, 1) := by decide +kernel
theorem dL_law_186 : decode cL_law 186 = .ok (.iaload, 1) := by decide +kernel
theorem dL_law_187 : decode cL_law 187 = .ok (.aload_n 0, 1) := by decide +kernel
theorem dL_law_188 : decode cL_law 188 = .ok (.iload 4, 2) := by decide +kernel
theorem dL_law_190 : decode cL_law 190 = .ok (.iconst 4, 1) := by decide +kernel
theorem dL_law_191 : decode cL_law 191 = .ok (.iadd, 1) := by decide +kernel
theorem dL_law_192 : decode cL_law 192 = .ok (.iaload, 1) := by decide +kernel
theorem dL_law_193 : decode cL_law 193 = .ok (.aload_n 0, 1) := by decide +kernel
theorem dL_law_194 : decode cL_law 194 = .ok (.iload 4, 2) := by decide +kernel
theorem dL_law_196 : decode cL_law 196 = .ok (.iconst 5, 1) := by decide +kernel
theorem dL_law_197 : decode cL_law 197 = .ok (.iadd, 1) := by decide +kernel
theorem dL_law_198 : decode cL_law 198 = .ok (.iaload, 1) := by decide +kernel
theorem dL_law_199 : decode cL_law 199 = .ok (.invokevirtual 88, 3) := by decide +kernel
theorem dL_law_202 : decode cL_law 202 = .ok (.aload_n 2, 1) := by decide +kernel
theorem dL_law_203 : decode cL_law 203 = .ok (.aload_n 0, 1) := by decide +kernel
theorem dL_law_204 : decode cL_law 204 = .ok (.iload 4, 2) := by decide +kernel
theorem dL_law_206 : decode cL_law 206 = .ok (.iconst 1, 1) := by decide +kernel
theorem dL_law_207 : decode cL_law 207 = .ok (.iadd, 1) := by decide +kernel
theorem dL_law_208 : decode cL_law 208 = .ok (.iaload, 1) := by decide +kernel
theorem dL_law_209 : decode cL_law 209 = .ok (.aload_n 0, 1) := by decide +kernel
theorem dL_law_210 : decode cL_law 210 = .ok (.iload 4, 2) := by decide +kernel
theorem dL_law_212 : decode cL_law 212 = .ok (.iconst 2, 1) := by decide +kernel
theorem dL_law_213 : decode cL_law 213 = .ok (.iadd, 1) := by decide +kernel
theorem dL_law_214 : decode cL_law 214 = .ok (.iaload, 1) := by decide +kernel
theorem dL_law_215 : decode cL_law 215 = .ok (.aload_n 0, 1) := by decide +kernel
theorem dL_law_216 : decode cL_law 216 = .ok (.iload 4, 2) := by decide +kernel
theorem dL_law_218 : decode cL_law 218 = .ok (.iconst 3, 1) := by decide +kernel
theorem dL_law_219 : decode cL_law 219 = .ok (.iadd, 1) := by decide +kernel
theorem dL_law_220 : decode cL_law 220 = .ok (.iaload, 1) := by decide +kernel
theorem dL_law_221 : decode cL_law 221 = .ok (.aload_n 0, 1) := by decide +kernel
theorem dL_law_222 : decode cL_law 222 = .ok (.iload 4, 2) := by decide +kernel
theorem dL_law_224 : decode cL_law 224 = .ok (.iconst 4, 1) := by decide +kernel
theorem dL_law_225 : decode cL_law 225 = .ok (.iadd, 1) := by decide +kernel
theorem dL_law_226 : decode cL_law 226 = .ok (.iaload, 1) := by decide +kernel
theorem dL_law_227 : decode cL_law 227 = .ok (.aload_n 0, 1) := by decide +kernel
theorem dL_law_228 : decode cL_law 228 = .ok (.iload 4, 2) := by decide +kernel
theorem dL_law_230 : decode cL_law 230 = .ok (.iconst 5, 1) := by decide +kernel
theorem dL_law_231 : decode cL_law 231 = .ok (.iadd, 1) := by decide +kernel
theorem dL_law_232 : decode cL_law 232 = .ok (.iaload, 1) := by decide +kernel
theorem dL_law_233 : decode cL_law 233 = .ok (.invokevirtual 92, 3) := by decide +kernel
theorem dL_law_236 : decode cL_law 236 = .ok (.if_icmp .eq 1474, 3) := by decide +kernel
theorem dL_law_239 : decode cL_law 239 = .ok (.iconst 0, 1) := by decide +kernel
theorem dL_law_240 : decode cL_law 240 = .ok (.ireturn, 1) := by decide +kernel
theorem dL_law_241 : decode cL_law 241 = .ok (.aload_n 1, 1) := by decide +kernel
theorem dL_law_242 : decode cL_law 242 = .ok (.aload_n 0, 1) := by decide +kernel
theorem dL_law_243 : decode cL_law 243 = .ok (.iload 4, 2) := by decide +kernel
theorem dL_law_245 : decode cL_law 245 = .ok (.iconst 1, 1) := by decide +kernel
theorem dL_law_246 : decode cL_law 246 = .ok (.iadd, 1) := by decide +kernel
theorem dL_law_247 : decode cL_law 247 = .ok (.iaload, 1) := by decide +kernel
theorem dL_law_248 : decode cL_law 248 = .ok (.aload_n 3, 1) := by decide +kernel
theorem dL_law_249 : decode cL_law 249 = .ok (.invokestatic 93, 3) := by decide +kernel
theorem dL_law_252 : decode cL_law 252 = .ok (.istore 5, 2) := by decide +kernel
theorem dL_law_254 : decode cL_law 254 = .ok (.aload_n 2, 1) := by decide +kernel
theorem dL_law_255 : decode cL_law 255 = .ok (.aload_n 0, 1) := by decide +kernel
theorem dL_law_256 : decode cL_law 256 = .ok (.iload 4, 2) := by decide +kernel
theorem dL_law_258 : decode cL_law 258 = .ok (.iconst 1, 1) := by decide +kernel
theorem dL_law_259 : decode cL_law 259 = .ok (.iadd, 1) := by decide +kernel
theorem dL_law_260 : decode cL_law 260 = .ok (.iaload, 1) := by decide +kernel
theorem dL_law_261 : decode cL_law 261 = .ok (.invokevirtual 98, 3) := by decide +kernel
theorem dL_law_264 : decode cL_law 264 = .ok (.istore 6, 2) := by decide +kernel
theorem dL_law_266 : decode cL_law 266 = .ok (.aload_n 2, 1) := by decide +kernel
theorem dL_law_267 : decode cL_law 267 = .ok (.invokevirtual 99, 3) := by decide +kernel
theorem dL_law_270 : decode cL_law 270 = .ok (.iload 5, 2) := by decide +kernel
theorem dL_law_272 : decode cL_law 272 = .ok (.if_icmp .eq 5, 3) := by decide +kernel
theorem dL_law_275 : decode cL_law 275 = .ok (.iconst 0, 1) := by decide +kernel
theorem dL_law_276 : decode cL_law 276 = .ok (.ireturn, 1) := by decide +kernel
theorem dL_law_277 : decode cL_law 277 = .ok (.iload 5, 2) := by decide +kernel
theorem dL_law_279 : decode cL_law 279 = .ok (.ifCond .ne 15, 3) := by decide +kernel
theorem dL_law_282 : decode cL_law 282 = .ok (.aload_n 3, 1) := by decide +kernel
theorem dL_law_283 : decode cL_law 283 = .ok (.iconst 0, 1) := by decide +kernel
theorem dL_law_284 : decode cL_law 284 = .ok (.laload, 1) := by decide +kernel
theorem dL_law_285 : decode cL_law 285 = .ok (.iload 6, 2) := by decide +kernel
theorem dL_law_287 : decode cL_law 287 = .ok (.i2l, 1) := by decide +kernel
theorem dL_law_288 : decode cL_law 288 = .ok (.lcmp, 1) := by decide +kernel
theorem dL_law_289 : decode cL_law 289 = .ok (.ifCond .eq 5, 3) := by decide +kernel
theorem dL_law_292 : decode cL_law 292 = .ok (.iconst 0, 1) := by decide +kernel
theorem dL_law_293 : decode cL_law 293 = .ok (.ireturn, 1) := by decide +kernel
theorem dL_law_294 : decode cL_law 294 = .ok (.goto 1416, 3) := by decide +kernel
theorem dL_law_297 : decode cL_law 297 = .ok (.aload_n 1, 1) := by decide +kernel
theorem dL_law_298 : decode cL_law 298 = .ok (.invokevirtual 103, 3) := by decide +kernel
theorem dL_law_301 : decode cL_law 301 = .ok (.aload_n 2, 1) := by decide +kernel
theorem dL_law_302 : decode cL_law 302 = .ok (.invokevirtual 106, 3) := by decide +kernel
theorem dL_law_305 : decode cL_law 305 = .ok (.if_icmp .eq 1405, 3) := by decide +kernel
theorem dL_law_308 : decode cL_law 308 = .ok (.iconst 0, 1) := by decide +kernel
theorem dL_law_309 : decode cL_law 309 = .ok (.ireturn, 1) := by decide +kernel
theorem dL_law_310 : decode cL_law 310 = .ok (.aload_n 1, 1) := by decide +kernel
theorem dL_law_311 : decode cL_law 311 = .ok (.aload_n 0, 1) := by decide +kernel
theorem dL_law_312 : decode cL_law 312 = .ok (.iload 4, 2) := by decide +kernel
theorem dL_law_314 : decode cL_law 314 = .ok (.iconst 1, 1) := by decide +kernel
theorem dL_law_315 : decode cL_law 315 = .ok (.iadd, 1) := by decide +kernel
theorem dL_law_316 : decode cL_law 316 = .ok (.iaload, 1) := by decide +kernel
theorem dL_law_317 : decode cL_law 317 = .ok (.aload_n 3, 1) := by decide +kernel
theorem dL_law_318 : decode cL_law 318 = .ok (.invokestatic 107, 3) := by decide +kernel
theorem dL_law_321 : decode cL_law 321 = .ok (.istore 5, 2) := by decide +kernel
theorem dL_law_323 : decode cL_law 323 = .ok (.aload_n 2, 1) := by decide +kernel
theorem dL_law_324 : decode cL_law 324 = .ok (.aload_n 0, 1) := by decide +kernel
theorem dL_law_325 : decode cL_law 325 = .ok (.iload 4, 2) := by decide +kernel
theorem dL_law_327 : decode cL_law 327 = .ok (.iconst 1, 1) := by decide +kernel
theorem dL_law_328 : decode cL_law 328 = .ok (.iadd, 1) := by decide +kernel
theorem dL_law_329 : decode cL_law 329 = .ok (.iaload, 1) := by decide +kernel
theorem dL_law_330 : decode cL_law 330 = .ok (.invokevirtual 109, 3) := by decide +kernel
theorem dL_law_333 : decode cL_law 333 = .ok (.istore 6, 2) := by decide +kernel
theorem dL_law_335 : decode cL_law 335 = .ok (.aload_n 2, 1) := by decide +kernel
theorem dL_law_336 : decode cL_law 336 = .ok (.invokevirtual 99, 3) := by decide +kernel
theorem dL_law_339 : decode cL_law 339 = .ok (.iload 5, 2) := by decide +kernel
theorem dL_law_341 : decode cL_law 341 = .ok (.if_icmp .eq 5, 3) := by decide +kernel
theorem dL_law_344 : decode cL_law 344 = .ok (.iconst 0, 1) := by decide +kernel
theorem dL_law_345 : decode cL_law 345 = .ok (.ireturn, 1) := by decide +kernel
theorem dL_law_346 : decode cL_law 346 = .ok (.iload 5, 2) := by decide +kernel
theorem dL_law_348 : decode cL_law 348 = .ok (.ifCond .ne 15, 3) := by decide +kernel
theorem dL_law_351 : decode cL_law 351 = .ok (.aload_n 3, 1) := by decide +kernel
theorem dL_law_352 : decode cL_law 352 = .ok (.iconst 0, 1) := by decide +kernel
theorem dL_law_353 : decode cL_law 353 = .ok (.laload, 1) := by decide +kernel
theorem dL_law_354 : decode cL_law 354 = .ok (.iload 6, 2) := by decide +kernel
theorem dL_law_356 : decode cL_law 356 = .ok (.i2l, 1) := by decide +kernel
theorem dL_law_357 : decode cL_law 357 = .ok (.lcmp, 1) := by decide +kernel
theorem dL_law_358 : decode cL_law 358 = .ok (.ifCond .eq 5, 3) := by decide +kernel
theorem dL_law_361 : decode cL_law 361 = .ok (.iconst 0, 1) := by decide +kernel
theorem dL_law_362 : decode cL_law 362 = .ok (.ireturn, 1) := by decide +kernel
theorem dL_law_363 : decode cL_law 363 = .ok (.goto 1347, 3) := by decide +kernel
theorem dL_law_366 : decode cL_law 366 = .ok (.aload_n 1, 1) := by decide +kernel
theorem dL_law_367 : decode cL_law 367 = .ok (.aload_n 0, 1) := by decide +kernel
theorem dL_law_368 : decode cL_law 368 = .ok (.iload 4, 2) := by decide +kernel
theorem dL_law_370 : decode cL_law 370 = .ok (.iconst 1, 1) := by decide +kernel
theorem dL_law_371 : decode cL_law 371 = .ok (.iadd, 1) := by decide +kernel
theorem dL_law_372 : decode cL_law 372 = .ok (.iaload, 1) := by decide +kernel
theorem dL_law_373 : decode cL_law 373 = .ok (.aload_n 3, 1) := by decide +kernel
theorem dL_law_374 : decode cL_law 374 = .ok (.invokestatic 110, 3) := by decide +kernel
theorem dL_law_377 : decode cL_law 377 = .ok (.istore 5, 2) := by decide +kernel
theorem dL_law_379 : decode cL_law 379 = .ok (.aload_n 2, 1) := by decide +kernel
theorem dL_law_380 : decode cL_law 380 = .ok (.aload_n 0, 1) := by decide +kernel
theorem dL_law_381 : decode cL_law 381 = .ok (.iload 4, 2) := by decide +kernel
theorem dL_law_383 : decode cL_law 383 = .ok (.iconst 1, 1) := by decide +kernel
theorem dL_law_384 : decode cL_law 384 = .ok (.iadd, 1) := by decide +kernel
theorem dL_law_385 : decode cL_law 385 = .ok (.iaload, 1) := by decide +kernel
theorem dL_law_386 : decode cL_law 386 = .ok (.invokevirtual 112, 3) := by decide +kernel
theorem dL_law_389 : decode cL_law 389 = .ok (.istore 6, 2) := by decide +kernel
theorem dL_law_391 : decode cL_law 391 = .ok (.aload_n 2, 1) := by decide +kernel
theorem dL_law_392 : decode cL_law 392 = .ok (.invokevirtual 99, 3) := by decide +kernel
theorem dL_law_395 : decode cL_law 395 = .ok (.iload 5, 2) := by decide +kernel
theorem dL_law_397 : decode cL_law 397 = .ok (.if_icmp .eq 5, 3) := by decide +kernel
theorem dL_law_400 : decode cL_law 400 = .ok (.iconst 0, 1) := by decide +kernel
theorem dL_law_401 : decode cL_law 401 = .ok (.ireturn, 1) := by decide +kernel
theorem dL_law_402 : decode cL_law 402 = .ok (.iload 5, 2) := by decide +kernel
theorem dL_law_404 : decode cL_law 404 = .ok (.ifCond .ne 15, 3) := by decide +kernel
theorem dL_law_407 : decode cL_law 407 = .ok (.aload_n 3, 1) := by decide +kernel
theorem dL_law_408 : decode cL_law 408 = .ok (.iconst 0, 1) := by decide +kernel
theorem dL_law_409 : decode cL_law 409 = .ok (.laload, 1) := by decide +kernel
theorem dL_law_410 : decode cL_law 410 = .ok (.iload 6, 2) := by decide +kernel
theorem dL_law_412 : decode cL_law 412 = .ok (.i2l, 1) := by decide +kernel
theorem dL_law_413 : decode cL_law 413 = .ok (.lcmp, 1) := by decide +kernel
theorem dL_law_414 : decode cL_law 414 = .ok (.ifCond .eq 5, 3) := by decide +kernel
theorem dL_law_417 : decode cL_law 417 = .ok (.iconst 0, 1) := by decide +kernel
theorem dL_law_418 : decode cL_law 418 = .ok (.ireturn, 1) := by decide +kernel
theorem dL_law_419 : decode cL_law 419 = .ok (.goto 1291, 3) := by decide +kernel
theorem dL_law_422 : decode cL_law 422 = .ok (.aload_n 1, 1) := by decide +kernel
theorem dL_law_423 : decode cL_law 423 = .ok (.aload_n 0, 1) := by decide +kernel
theorem dL_law_424 : decode cL_law 424 = .ok (.iload 4, 2) := by decide +kernel
theorem dL_law_426 : decode cL_law 426 = .ok (.iconst 1, 1) := by decide +kernel
theorem dL_law_427 : decode cL_law 427 = .ok (.iadd, 1) := by decide +kernel
theorem dL_law_428 : decode cL_law 428 = .ok (.iaload, 1) := by decide +kernel
theorem dL_law_429 : decode cL_law 429 = .ok (.aload_n 0, 1) := by decide +kernel
theorem dL_law_430 : decode cL_law 430 = .ok (.iload 4, 2) := by decide +kernel
theorem dL_law_432 : decode cL_law 432 = .ok (.iconst 2, 1) := by decide +kernel
theorem dL_law_433 : decode cL_law 433 = .ok (.iadd, 1) := by decide +kernel
theorem dL_law_434 : decode cL_law 434 = .ok (.iaload, 1) := by decide +kernel
theorem dL_law_435 : decode cL_law 435 = .ok (.aload_n 3, 1) := by decide +kernel
theorem dL_law_436 : decode cL_law 436 = .ok (.invokestatic 113, 3) := by decide +kernel
theorem dL_law_439 : decode cL_law 439 = .ok (.istore 5, 2) := by decide +kernel
theorem dL_law_441 : decode cL_law 441 = .ok (.aload_n 2, 1) := by decide +kernel
theorem dL_law_442 : decode cL_law 442 = .ok (.aload_n 0, 1) := by decide +kernel
theorem dL_law_443 : decode cL_law 443 = .ok (.iload 4, 2) := by decide +kernel
theorem dL_law_445 : decode cL_law 445 = .ok (.iconst 1, 1) := by decide +kernel
theorem dL_law_446 : decode cL_law 446 = .ok (.iadd, 1) := by decide +kernel
theorem dL_law_447 : decode cL_law 447 = .ok (.iaload, 1) := by decide +kernel
theorem dL_law_448 : decode cL_law 448 = .ok (.aload_n 0, 1) := by decide +kernel
theorem dL_law_449 : decode cL_law 449 = .ok (.iload 4, 2) := by decide +kernel
theorem dL_law_451 : decode cL_law 451 = .ok (.iconst 2, 1) := by decide +kernel
theorem dL_law_452 : decode cL_law 452 = .ok (.iadd, 1) := by decide +kernel
theorem dL_law_453 : decode cL_law 453 = .ok (.iaload, 1) := by decide +kernel
theorem dL_law_454 : decode cL_law 454 = .ok (.invokevirtual 116, 3) := by decide +kernel
theorem dL_law_457 : decode cL_law 457 = .ok (.istore 6, 2) := by decide +kernel
theorem dL_law_459 : decode cL_law 459 = .ok (.aload_n 2, 1) := by decide +kernel
theorem dL_law_460 : decode cL_law 460 = .ok (.invokevirtual 99, 3) := by decide +kernel
theorem dL_law_463 : decode cL_law 463 = .ok (.iload 5, 2) := by decide +kernel
theorem dL_law_465 : decode cL_law 465 = .ok (.if_icmp .eq 5, 3) := by decide +kernel
theorem dL_law_468 : decode cL_law 468 = .ok (.iconst 0, 1) := by decide +kernel
theorem dL_law_469 : decode cL_law 469 = .ok (.ireturn, 1) := by decide +kernel
theorem dL_law_470 : decode cL_law 470 = .ok (.iload 5, 2) := by decide +kernel
theorem dL_law_472 : decode cL_law 472 = .ok (.ifCond .ne 15, 3) := by decide +kernel
theorem dL_law_475 : decode cL_law 475 = .ok (.aload_n 3, 1) := by decide +kernel
theorem dL_law_476 : decode cL_law 476 = .ok (.iconst 0, 1) := by decide +kernel
theorem dL_law_477 : decode cL_law 477 = .ok (.laload, 1) := by decide +kernel
theorem dL_law_478 : decode cL_law 478 = .ok (.iload 6, 2) := by decide +kernel
theorem dL_law_480 : decode cL_law 480 = .ok (.i2l, 1) := by decide +kernel
theorem dL_law_481 : decode cL_law 481 = .ok (.lcmp, 1) := by decide +kernel
theorem dL_law_482 : decode cL_law 482 = .ok (.ifCond .eq 5, 3) := by decide +kernel
theorem dL_law_485 : decode cL_law 485 = .ok (.iconst 0, 1) := by decide +kernel
theorem dL_law_486 : decode cL_law 486 = .ok (.ireturn, 1) := by decide +kernel
theorem dL_law_487 : decode cL_law 487 = .ok (.goto 1223, 3) := by decide +kernel
theorem dL_law_490 : decode cL_law 490 = .ok (.aload_n 1, 1) := by decide +kernel
theorem dL_law_491 : decode cL_law 491 = .ok (.aload_n 0, 1) := by decide +kernel
theorem dL_law_492 : decode cL_law 492 = .ok (.iload 4, 2) := by decide +kernel
theorem dL_law_494 : decode cL_law 494 = .ok (.iconst 1, 1) := by decide +kernel
theorem dL_law_495 : decode cL_law 495 = .ok (.iadd, 1) := by decide +kernel
theorem dL_law_496 : decode cL_law 496 = .ok (.iaload, 1) := by decide +kernel
theorem dL_law_497 : decode cL_law 497 = .ok (.aload_n 0, 1) := by decide +kernel
theorem dL_law_498 : decode cL_law 498 = .ok (.iload 4, 2) := by decide +kernel
theorem dL_law_500 : decode cL_law 500 = .ok (.iconst 2, 1) := by decide +kernel
theorem dL_law_501 : decode cL_law 501 = .ok (.iadd, 1) := by decide +kernel
theorem dL_law_502 : decode cL_law 502 = .ok (.iaload, 1) := by decide +kernel
theorem dL_law_503 : decode cL_law 503 = .ok (.aload_n 3, 1) := by decide +kernel
theorem dL_law_504 : decode cL_law 504 = .ok (.invokestatic 117, 3) := by decide +kernel
theorem dL_law_507 : decode cL_law 507 = .ok (.istore 5, 2) := by decide +kernel
theorem dL_law_509 : decode cL_law 509 = .ok (.aload_n 2, 1) := by decide +kernel
theorem dL_law_510 : decode cL_law 510 = .ok (.aload_n 0, 1) := by decide +kernel
theorem dL_law_511 : decode cL_law 511 = .ok (.iload 4, 2) := by decide +kernel
theorem dL_law_513 : decode cL_law 513 = .ok (.iconst 1, 1) := by decide +kernel
theorem dL_law_514 : decode cL_law 514 = .ok (.iadd, 1) := by decide +kernel
theorem dL_law_515 : decode cL_law 515 = .ok (.iaload, 1) := by decide +kernel
theorem dL_law_516 : decode cL_law 516 = .ok (.aload_n 0, 1) := by decide +kernel
theorem dL_law_517 : decode cL_law 517 = .ok (.iload 4, 2) := by decide +kernel
theorem dL_law_519 : decode cL_law 519 = .ok (.iconst 2, 1) := by decide +kernel
theorem dL_law_520 : decode cL_law 520 = .ok (.iadd, 1) := by decide +kernel
theorem dL_law_521 : decode cL_law 521 = .ok (.iaload, 1) := by decide +kernel
theorem dL_law_522 : decode cL_law 522 = .ok (.invokevirtual 119, 3) := by decide +kernel
theorem dL_law_525 : decode cL_law 525 = .ok (.istore 6, 2) := by decide +kernel
theorem dL_law_527 : decode cL_law 527 = .ok (.aload_n 2, 1) := by decide +kernel
theorem dL_law_528 : decode cL_law 528 = .ok (.invokevirtual 99, 3) := by decide +kernel
theorem dL_law_531 : decode cL_law 531 = .ok (.iload 5, 2) := by decide +kernel
theorem dL_law_533 : decode cL_law 533 = .ok (.if_icmp .eq 5, 3) := by decide +kernel
theorem dL_law_536 : decode cL_law 536 = .ok (.iconst 0, 1) := by decide +kernel
theorem dL_law_537 : decode cL_law 537 = .ok (.ireturn, 1) := by decide +kernel
theorem dL_law_538 : decode cL_law 538 = .ok (.iload 5, 2) := by decide +kernel
theorem dL_law_540 : decode cL_law 540 = .ok (.ifCond .ne 15, 3) := by decide +kernel
theorem dL_law_543 : decode cL_law 543 = .ok (.aload_n 3, 1) := by decide +kernel
theorem dL_law_544 : decode cL_law 544 = .ok (.iconst 0, 1) := by decide +kernel
theorem dL_law_545 : decode cL_law 545 = .ok (.laload, 1) := by decide +kernel
theorem dL_law_546 : decode cL_law 546 = .ok (.iload 6, 2) := by decide +kernel
theorem dL_law_548 : decode cL_law 548 = .ok (.i2l, 1) := by decide +kernel
theorem dL_law_549 : decode cL_law 549 = .ok (.lcmp, 1) := by decide +kernel
theorem dL_law_550 : decode cL_law 550 = .ok (.ifCond .eq 5, 3) := by decide +kernel
theorem dL_law_553 : decode cL_law 553 = .ok (.iconst 0, 1) := by decide +kernel
theorem dL_law_554 : decode cL_law 554 = .ok (.ireturn, 1) := by decide +kernel
theorem dL_law_555 : decode cL_law 555 = .ok (.goto 1155, 3) := by decide +kernel
theorem dL_law_558 : decode cL_law 558 = .ok (.aload_n 1, 1) := by decide +kernel
theorem dL_law_559 : decode cL_law 559 = .ok (.aload_n 0, 1) := by decide +kernel
theorem dL_law_560 : decode cL_law 560 = .ok (.iload 4, 2) := by decide +kernel
theorem dL_law_562 : decode cL_law 562 = .ok (.iconst 1, 1) := by decide +kernel
theorem dL_law_563 : decode cL_law 563 = .ok (.iadd, 1) := by decide +kernel
theorem dL_law_564 : decode cL_law 564 = .ok (.iaload, 1) := by decide +kernel
theorem dL_law_565 : decode cL_law 565 = .ok (.aload_n 0, 1) := by decide +kernel
theorem dL_law_566 : decode cL_law 566 = .ok (.iload 4, 2) := by decide +kernel
theorem dL_law_568 : decode cL_law 568 = .ok (.iconst 2, 1) := by decide +kernel
theorem dL_law_569 : decode cL_law 569 = .ok (.iadd, 1) := by decide +kernel
theorem dL_law_570 : decode cL_law 570 = .ok (.iaload, 1) := by decide +kernel
theorem dL_law_571 : decode cL_law 571 = .ok (.aload_n 0, 1) := by decide +kernel
theorem dL_law_572 : decode cL_law 572 = .ok (.iload 4, 2) := by decide +kernel
theorem dL_law_574 : decode cL_law 574 = .ok (.iconst 3, 1) := by decide +kernel
theorem dL_law_575 : decode cL_law 575 = .ok (.iadd, 1) := by decide +kernel
theorem dL_law_576 : decode cL_law 576 = .ok (.iaload, 1) := by decide +kernel
theorem dL_law_577 : decode cL_law 577 = .ok (.aload_n 3, 1) := by decide +kernel
theorem dL_law_578 : decode cL_law 578 = .ok (.invokestatic 120, 3) := by decide +kernel
theorem dL_law_581 : decode cL_law 581 = .ok (.istore 5, 2) := by decide +kernel
theorem dL_law_583 : decode cL_law 583 = .ok (.aload_n 2, 1) := by decide +kernel
theorem dL_law_584 : decode cL_law 584 = .ok (.aload_n 0, 1) := by decide +kernel
theorem dL_law_585 : decode cL_law 585 = .ok (.iload 4, 2) := by decide +kernel
theorem dL_law_587 : decode cL_law 587 = .ok (.iconst 1, 1) := by decide +kernel
theorem dL_law_588 : decode cL_law 588 = .ok (.iadd, 1) := by decide +kernel
theorem dL_law_589 : decode cL_law 589 = .ok (.iaload, 1) := by decide +kernel
theorem dL_law_590 : decode cL_law 590 = .ok (.aload_n 0, 1) := by decide +kernel
theorem dL_law_591 : decode cL_law 591 = .ok (.iload 4, 2) := by decide +kernel
theorem dL_law_593 : decode cL_law 593 = .ok (.iconst 2, 1) := by decide +kernel
theorem dL_law_594 : decode cL_law 594 = .ok (.iadd, 1) := by decide +kernel
theorem dL_law_595 : decode cL_law 595 = .ok (.iaload, 1) := by decide +kernel
theorem dL_law_596 : decode cL_law 596 = .ok (.aload_n 0, 1) := by decide +kernel
theorem dL_law_597 : decode cL_law 597 = .ok (.iload 4, 2) := by decide +kernel
theorem dL_law_599 : decode cL_law 599 = .ok (.iconst 3, 1) := by decide +kernel
theorem dL_law_600 : decode cL_law 600 = .ok (.iadd, 1) := by decide +kernel
theorem dL_law_601 : decode cL_law 601 = .ok (.iaload, 1) := by decide +kernel
theorem dL_law_602 : decode cL_law 602 = .ok (.invokevirtual 123, 3) := by decide +kernel
theorem dL_law_605 : decode cL_law 605 = .ok (.istore 6, 2) := by decide +kernel
theorem dL_law_607 : decode cL_law 607 = .ok (.aload_n 2, 1) := by decide +kernel
theorem dL_law_608 : decode cL_law 608 = .ok (.invokevirtual 99, 3) := by decide +kernel
theorem dL_law_611 : decode cL_law 611 = .ok (.iload 5, 2) := by decide +kernel
theorem dL_law_613 : decode cL_law 613 = .ok (.if_icmp .eq 5, 3) := by decide +kernel
theorem dL_law_616 : decode cL_law 616 = .ok (.iconst 0, 1) := by decide +kernel
theorem dL_law_617 : decode cL_law 617 = .ok (.ireturn, 1) := by decide +kernel
theorem dL_law_618 : decode cL_law 618 = .ok (.iload 5, 2) := by decide +kernel
theorem dL_law_620 : decode cL_law 620 = .ok (.ifCond .ne 15, 3) := by decide +kernel
theorem dL_law_623 : decode cL_law 623 = .ok (.aload_n 3, 1) := by decide +kernel
theorem dL_law_624 : decode cL_law 624 = .ok (.iconst 0, 1) := by decide +kernel
theorem dL_law_625 : decode cL_law 625 = .ok (.laload, 1) := by decide +kernel
theorem dL_law_626 : decode cL_law 626 = .ok (.iload 6, 2) := by decide +kernel
theorem dL_law_628 : decode cL_law 628 = .ok (.i2l, 1) := by decide +kernel
theorem dL_law_629 : decode cL_law 629 = .ok (.lcmp, 1) := by decide +kernel
theorem dL_law_630 : decode cL_law 630 = .ok (.ifCond .eq 5, 3) := by decide +kernel
theorem dL_law_633 : decode cL_law 633 = .ok (.iconst 0, 1) := by decide +kernel
theorem dL_law_634 : decode cL_law 634 = .ok (.ireturn, 1) := by decide +kernel
theorem dL_law_635 : decode cL_law 635 = .ok (.goto 1075, 3) := by decide +kernel
theorem dL_law_638 : decode cL_law 638 = .ok (.aload_n 1, 1) := by decide +kernel
theorem dL_law_639 : decode cL_law 639 = .ok (.aload_n 0, 1) := by decide +kernel
theorem dL_law_640 : decode cL_law 640 = .ok (.iload 4, 2) := by decide +kernel
theorem dL_law_642 : decode cL_law 642 = .ok (.iconst 1, 1) := by decide +kernel
theorem dL_law_643 : decode cL_law 643 = .ok (.iadd, 1) := by decide +kernel
theorem dL_law_644 : decode cL_law 644 = .ok (.iaload, 1) := by decide +kernel
theorem dL_law_645 : decode cL_law 645 = .ok (.aload_n 0, 1) := by decide +kernel
theorem dL_law_646 : decode cL_law 646 = .ok (.iload 4, 2) := by decide +kernel
theorem dL_law_648 : decode cL_law 648 = .ok (.iconst 2, 1) := by decide +kernel
theorem dL_law_649 : decode cL_law 649 = .ok (.iadd, 1) := by decide +kernel
theorem dL_law_650 : decode cL_law 650 = .ok (.iaload, 1) := by decide +kernel
theorem dL_law_651 : decode cL_law 651 = .ok (.aload_n 3, 1) := by decide +kernel
theorem dL_law_652 : decode cL_law 652 = .ok (.invokestatic 124, 3) := by decide +kernel
theorem dL_law_655 : decode cL_law 655 = .ok (.istore 5, 2) := by decide +kernel
theorem dL_law_657 : decode cL_law 657 = .ok (.aload_n 2, 1) := by decide +kernel
theorem dL_law_658 : decode cL_law 658 = .ok (.aload_n 0, 1) := by decide +kernel
theorem dL_law_659 : decode cL_law 659 = .ok (.iload 4, 2) := by decide +kernel
theorem dL_law_661 : decode cL_law 661 = .ok (.iconst 1, 1) := by decide +kernel
theorem dL_law_662 : decode cL_law 662 = .ok (.iadd, 1) := by decide +kernel
theorem dL_law_663 : decode cL_law 663 = .ok (.iaload, 1) := by decide +kernel
theorem dL_law_664 : decode cL_law 664 = .ok (.aload_n 0, 1) := by decide +kernel
theorem dL_law_665 : decode cL_law 665 = .ok (.iload 4, 2) := by decide +kernel
theorem dL_law_667 : decode cL_law 667 = .ok (.iconst 2, 1) := by decide +kernel
theorem dL_law_668 : decode cL_law 668 = .ok (.iadd, 1) := by decide +kernel
theorem dL_law_669 : decode cL_law 669 = .ok (.iaload, 1) := by decide +kernel
theorem dL_law_670 : decode cL_law 670 = .ok (.invokevirtual 126, 3) := by decide +kernel
theorem dL_law_673 : decode cL_law 673 = .ok (.istore 6, 2) := by decide +kernel
theorem dL_law_675 : decode cL_law 675 = .ok (.aload_n 2, 1) := by decide +kernel
theorem dL_law_676 : decode cL_law 676 = .ok (.invokevirtual 99, 3) := by decide +kernel
theorem dL_law_679 : decode cL_law 679 = .ok (.iload 5, 2) := by decide +kernel
theorem dL_law_681 : decode cL_law 681 = .ok (.if_icmp .eq 5, 3) := by decide +kernel
theorem dL_law_684 : decode cL_law 684 = .ok (.iconst 0, 1) := by decide +kernel
theorem dL_law_685 : decode cL_law 685 = .ok (.ireturn, 1) := by decide +kernel
theorem dL_law_686 : decode cL_law 686 = .ok (.iload 5, 2) := by decide +kernel
theorem dL_law_688 : decode cL_law 688 = .ok (.ifCond .ne 15, 3) := by decide +kernel
theorem dL_law_691 : decode cL_law 691 = .ok (.aload_n 3, 1) := by decide +kernel
theorem dL_law_692 : decode cL_law 692 = .ok (.iconst 0, 1) := by decide +kernel
theorem dL_law_693 : decode cL_law 693 = .ok (.laload, 1) := by decide +kernel
theorem dL_law_694 : decode cL_law 694 = .ok (.iload 6, 2) := by decide +kernel
theorem dL_law_696 : decode cL_law 696 = .ok (.i2l, 1) := by decide +kernel
theorem dL_law_697 : decode cL_law 697 = .ok (.lcmp, 1) := by decide +kernel
theorem dL_law_698 : decode cL_law 698 = .ok (.ifCond .eq 5, 3) := by decide +kernel
theorem dL_law_701 : decode cL_law 701 = .ok (.iconst 0, 1) := by decide +kernel
theorem dL_law_702 : decode cL_law 702 = .ok (.ireturn, 1) := by decide +kernel
theorem dL_law_703 : decode cL_law 703 = .ok (.goto 1007, 3) := by decide +kernel
theorem dL_law_706 : decode cL_law 706 = .ok (.aload_n 1, 1) := by decide +kernel
theorem dL_law_707 : decode cL_law 707 = .ok (.aload_n 0, 1) := by decide +kernel
theorem dL_law_708 : decode cL_law 708 = .ok (.iload 4, 2) := by decide +kernel
theorem dL_law_710 : decode cL_law 710 = .ok (.iconst 1, 1) := by decide +kernel
theorem dL_law_711 : decode cL_law 711 = .ok (.iadd, 1) := by decide +kernel
theorem dL_law_712 : decode cL_law 712 = .ok (.iaload, 1) := by decide +kernel
theorem dL_law_713 : decode cL_law 713 = .ok (.aload_n 0, 1) := by decide +kernel
theorem dL_law_714 : decode cL_law 714 = .ok (.iload 4, 2) := by decide +kernel
theorem dL_law_716 : decode cL_law 716 = .ok (.iconst 2, 1) := by decide +kernel
theorem dL_law_717 : decode cL_law 717 = .ok (.iadd, 1) := by decide +kernel
theorem dL_law_718 : decode cL_law 718 = .ok (.iaload, 1) := by decide +kernel
theorem dL_law_719 : decode cL_law 719 = .ok (.aload_n 0, 1) := by decide +kernel
theorem dL_law_720 : decode cL_law 720 = .ok (.iload 4, 2) := by decide +kernel
theorem dL_law_722 : decode cL_law 722 = .ok (.iconst 3, 1) := by decide +kernel
theorem dL_law_723 : decode cL_law 723 = .ok (.iadd, 1) := by decide +kernel
theorem dL_law_724 : decode cL_law 724 = .ok (.iaload, 1) := by decide +kernel
theorem dL_law_725 : decode cL_law 725 = .ok (.aload_n 3, 1) := by decide +kernel
theorem dL_law_726 : decode cL_law 726 = .ok (.invokestatic 127, 3) := by decide +kernel
theorem dL_law_729 : decode cL_law 729 = .ok (.istore 5, 2) := by decide +kernel
theorem dL_law_731 : decode cL_law 731 = .ok (.aload_n 2, 1) := by decide +kernel
theorem dL_law_732 : decode cL_law 732 = .ok (.aload_n 0, 1) := by decide +kernel
theorem dL_law_733 : decode cL_law 733 = .ok (.iload 4, 2) := by decide +kernel
theorem dL_law_735 : decode cL_law 735 = .ok (.iconst 1, 1) := by decide +kernel
theorem dL_law_736 : decode cL_law 736 = .ok (.iadd, 1) := by decide +kernel
theorem dL_law_737 : decode cL_law 737 = .ok (.iaload, 1) := by decide +kernel
theorem dL_law_738 : decode cL_law 738 = .ok (.aload_n 0, 1) := by decide +kernel
theorem dL_law_739 : decode cL_law 739 = .ok (.iload 4, 2) := by decide +kernel
theorem dL_law_741 : decode cL_law 741 = .ok (.iconst 2, 1) := by decide +kernel
theorem dL_law_742 : decode cL_law 742 = .ok (.iadd, 1) := by decide +kernel
theorem dL_law_743 : decode cL_law 743 = .ok (.iaload, 1) := by decide +kernel
theorem dL_law_744 : decode cL_law 744 = .ok (.aload_n 0, 1) := by decide +kernel
theorem dL_law_745 : decode cL_law 745 = .ok (.iload 4, 2) := by decide +kernel
theorem dL_law_747 : decode cL_law 747 = .ok (.iconst 3, 1) := by decide +kernel
theorem dL_law_748 : decode cL_law 748 = .ok (.iadd, 1) := by decide +kernel
theorem dL_law_749 : decode cL_law 749 = .ok (.iaload, 1) := by decide +kernel
theorem dL_law_750 : decode cL_law 750 = .ok (.invokevirtual 129, 3) := by decide +kernel
theorem dL_law_753 : decode cL_law 753 = .ok (.istore 6, 2) := by decide +kernel
theorem dL_law_755 : decode cL_law 755 = .ok (.aload_n 2, 1) := by decide +kernel
theorem dL_law_756 : decode cL_law 756 = .ok (.invokevirtual 99, 3) := by decide +kernel
theorem dL_law_759 : decode cL_law 759 = .ok (.iload 5, 2) := by decide +kernel
theorem dL_law_761 : decode cL_law 761 = .ok (.if_icmp .eq 5, 3) := by decide +kernel
theorem dL_law_764 : decode cL_law 764 = .ok (.iconst 0, 1) := by decide +kernel
theorem dL_law_765 : decode cL_law 765 = .ok (.ireturn, 1) := by decide +kernel
theorem dL_law_766 : decode cL_law 766 = .ok (.iload 5, 2) := by decide +kernel
theorem dL_law_768 : decode cL_law 768 = .ok (.ifCond .ne 15, 3) := by decide +kernel
theorem dL_law_771 : decode cL_law 771 = .ok (.aload_n 3, 1) := by decide +kernel
theorem dL_law_772 : decode cL_law 772 = .ok (.iconst 0, 1) := by decide +kernel
theorem dL_law_773 : decode cL_law 773 = .ok (.laload, 1) := by decide +kernel
theorem dL_law_774 : decode cL_law 774 = .ok (.iload 6, 2) := by decide +kernel
theorem dL_law_776 : decode cL_law 776 = .ok (.i2l, 1) := by decide +kernel
theorem dL_law_777 : decode cL_law 777 = .ok (.lcmp, 1) := by decide +kernel
theorem dL_law_778 : decode cL_law 778 = .ok (.ifCond .eq 5, 3) := by decide +kernel
theorem dL_law_781 : decode cL_law 781 = .ok (.iconst 0, 1) := by decide +kernel
theorem dL_law_782 : decode cL_law 782 = .ok (.ireturn, 1) := by decide +kernel
theorem dL_law_783 : decode cL_law 783 = .ok (.goto 927, 3) := by decide +kernel
theorem dL_law_786 : decode cL_law 786 = .ok (.aload_n 1, 1) := by decide +kernel
theorem dL_law_787 : decode cL_law 787 = .ok (.aload_n 0, 1) := by decide +kernel
theorem dL_law_788 : decode cL_law 788 = .ok (.iload 4, 2) := by decide +kernel
theorem dL_law_790 : decode cL_law 790 = .ok (.iconst 1, 1) := by decide +kernel
theorem dL_law_791 : decode cL_law 791 = .ok (.iadd, 1) := by decide +kernel
theorem dL_law_792 : decode cL_law 792 = .ok (.iaload, 1) := by decide +kernel
theorem dL_law_793 : decode cL_law 793 = .ok (.aload_n 3, 1) := by decide +kernel
theorem dL_law_794 : decode cL_law 794 = .ok (.invokestatic 130, 3) := by decide +kernel
theorem dL_law_797 : decode cL_law 797 = .ok (.istore 5, 2) := by decide +kernel
theorem dL_law_799 : decode cL_law 799 = .ok (.aload_n 2, 1) := by decide +kernel
theorem dL_law_800 : decode cL_law 800 = .ok (.aload_n 0, 1) := by decide +kernel
theorem dL_law_801 : decode cL_law 801 = .ok (.iload 4, 2) := by decide +kernel
theorem dL_law_803 : decode cL_law 803 = .ok (.iconst 1, 1) := by decide +kernel
theorem dL_law_804 : decode cL_law 804 = .ok (.iadd, 1) := by decide +kernel
theorem dL_law_805 : decode cL_law 805 = .ok (.iaload, 1) := by decide +kernel
theorem dL_law_806 : decode cL_law 806 = .ok (.invokevirtual 132, 3) := by decide +kernel
theorem dL_law_809 : decode cL_law 809 = .ok (.istore 6, 2) := by decide +kernel
theorem dL_law_811 : decode cL_law 811 = .ok (.aload_n 2, 1) := by decide +kernel
theorem dL_law_812 : decode cL_law 812 = .ok (.invokevirtual 99, 3) := by decide +kernel
theorem dL_law_815 : decode cL_law 815 = .ok (.iload 5, 2) := by decide +kernel
theorem dL_law_817 : decode cL_law 817 = .ok (.if_icmp .eq 5, 3) := by decide +kernel
theorem dL_law_820 : decode cL_law 820 = .ok (.iconst 0, 1) := by decide +kernel
theorem dL_law_821 : decode cL_law 821 = .ok (.ireturn, 1) := by decide +kernel
theorem dL_law_822 : decode cL_law 822 = .ok (.iload 5, 2) := by decide +kernel
theorem dL_law_824 : decode cL_law 824 = .ok (.ifCond .ne 15, 3) := by decide +kernel
theorem dL_law_827 : decode cL_law 827 = .ok (.aload_n 3, 1) := by decide +kernel
theorem dL_law_828 : decode cL_law 828 = .ok (.iconst 0, 1) := by decide +kernel
theorem dL_law_829 : decode cL_law 829 = .ok (.laload, 1) := by decide +kernel
theorem dL_law_830 : decode cL_law 830 = .ok (.iload 6, 2) := by decide +kernel
theorem dL_law_832 : decode cL_law 832 = .ok (.i2l, 1) := by decide +kernel
theorem dL_law_833 : decode cL_law 833 = .ok (.lcmp, 1) := by decide +kernel
theorem dL_law_834 : decode cL_law 834 = .ok (.ifCond .eq 5, 3) := by decide +kernel
theorem dL_law_837 : decode cL_law 837 = .ok (.iconst 0, 1) := by decide +kernel
theorem dL_law_838 : decode cL_law 838 = .ok (.ireturn, 1) := by decide +kernel
theorem dL_law_839 : decode cL_law 839 = .ok (.goto 871, 3) := by decide +kernel
theorem dL_law_842 : decode cL_law 842 = .ok (.aload_n 1, 1) := by decide +kernel
theorem dL_law_843 : decode cL_law 843 = .ok (.aload_n 0, 1) := by decide +kernel
theorem dL_law_844 : decode cL_law 844 = .ok (.iload 4, 2) := by decide +kernel
theorem dL_law_846 : decode cL_law 846 = .ok (.iconst 1, 1) := by decide +kernel
theorem dL_law_847 : decode cL_law 847 = .ok (.iadd, 1) := by decide +kernel
theorem dL_law_848 : decode cL_law 848 = .ok (.iaload, 1) := by decide +kernel
theorem dL_law_849 : decode cL_law 849 = .ok (.aload_n 3, 1) := by decide +kernel
theorem dL_law_850 : decode cL_law 850 = .ok (.invokestatic 133, 3) := by decide +kernel
theorem dL_law_853 : decode cL_law 853 = .ok (.istore 5, 2) := by decide +kernel
theorem dL_law_855 : decode cL_law 855 = .ok (.aload_n 2, 1) := by decide +kernel
theorem dL_law_856 : decode cL_law 856 = .ok (.aload_n 0, 1) := by decide +kernel
theorem dL_law_857 : decode cL_law 857 = .ok (.iload 4, 2) := by decide +kernel
theorem dL_law_859 : decode cL_law 859 = .ok (.iconst 1, 1) := by decide +kernel
theorem dL_law_860 : decode cL_law 860 = .ok (.iadd, 1) := by decide +kernel
theorem dL_law_861 : decode cL_law 861 = .ok (.iaload, 1) := by decide +kernel
theorem dL_law_862 : decode cL_law 862 = .ok (.invokevirtual 135, 3) := by decide +kernel
theorem dL_law_865 : decode cL_law 865 = .ok (.istore 6, 2) := by decide +kernel
theorem dL_law_867 : decode cL_law 867 = .ok (.aload_n 2, 1) := by decide +kernel
theorem dL_law_868 : decode cL_law 868 = .ok (.invokevirtual 99, 3) := by decide +kernel
theorem dL_law_871 : decode cL_law 871 = .ok (.iload 5, 2) := by decide +kernel
theorem dL_law_873 : decode cL_law 873 = .ok (.if_icmp .eq 5, 3) := by decide +kernel
theorem dL_law_876 : decode cL_law 876 = .ok (.iconst 0, 1) := by decide +kernel
theorem dL_law_877 : decode cL_law 877 = .ok (.ireturn, 1) := by decide +kernel
theorem dL_law_878 : decode cL_law 878 = .ok (.iload 5, 2) := by decide +kernel
theorem dL_law_880 : decode cL_law 880 = .ok (.ifCond .ne 15, 3) := by decide +kernel
theorem dL_law_883 : decode cL_law 883 = .ok (.aload_n 3, 1) := by decide +kernel
theorem dL_law_884 : decode cL_law 884 = .ok (.iconst 0, 1) := by decide +kernel
theorem dL_law_885 : decode cL_law 885 = .ok (.laload, 1) := by decide +kernel
theorem dL_law_886 : decode cL_law 886 = .ok (.iload 6, 2) := by decide +kernel
theorem dL_law_888 : decode cL_law 888 = .ok (.i2l, 1) := by decide +kernel
theorem dL_law_889 : decode cL_law 889 = .ok (.lcmp, 1) := by decide +kernel
theorem dL_law_890 : decode cL_law 890 = .ok (.ifCond .eq 5, 3) := by decide +kernel
theorem dL_law_893 : decode cL_law 893 = .ok (.iconst 0, 1) := by decide +kernel
theorem dL_law_894 : decode cL_law 894 = .ok (.ireturn, 1) := by decide +kernel
theorem dL_law_895 : decode cL_law 895 = .ok (.goto 815, 3) := by decide +kernel
theorem dL_law_898 : decode cL_law 898 = .ok (.aload_n 1, 1) := by decide +kernel
theorem dL_law_899 : decode cL_law 899 = .ok (.aload_n 0, 1) := by decide +kernel
theorem dL_law_900 : decode cL_law 900 = .ok (.iload 4, 2) := by decide +kernel
theorem dL_law_902 : decode cL_law 902 = .ok (.iconst 1, 1) := by decide +kernel
theorem dL_law_903 : decode cL_law 903 = .ok (.iadd, 1) := by decide +kernel
theorem dL_law_904 : decode cL_law 904 = .ok (.iaload, 1) := by decide +kernel
theorem dL_law_905 : decode cL_law 905 = .ok (.aload_n 3, 1) := by decide +kernel
theorem dL_law_906 : decode cL_law 906 = .ok (.invokestatic 136, 3) := by decide +kernel
theorem dL_law_909 : decode cL_law 909 = .ok (.istore 5, 2) := by decide +kernel
theorem dL_law_911 : decode cL_law 911 = .ok (.aload_n 2, 1) := by decide +kernel
theorem dL_law_912 : decode cL_law 912 = .ok (.aload_n 0, 1) := by decide +kernel
theorem dL_law_913 : decode cL_law 913 = .ok (.iload 4, 2) := by decide +kernel
theorem dL_law_915 : decode cL_law 915 = .ok (.iconst 1, 1) := by decide +kernel
theorem dL_law_916 : decode cL_law 916 = .ok (.iadd, 1) := by decide +kernel
theorem dL_law_917 : decode cL_law 917 = .ok (.iaload, 1) := by decide +kernel
theorem dL_law_918 : decode cL_law 918 = .ok (.invokevirtual 138, 3) := by decide +kernel
theorem dL_law_921 : decode cL_law 921 = .ok (.istore 6, 2) := by decide +kernel
theorem dL_law_923 : decode cL_law 923 = .ok (.aload_n 2, 1) := by decide +kernel
theorem dL_law_924 : decode cL_law 924 = .ok (.invokevirtual 99, 3) := by decide +kernel
theorem dL_law_927 : decode cL_law 927 = .ok (.iload 5, 2) := by decide +kernel
theorem dL_law_929 : decode cL_law 929 = .ok (.if_icmp .eq 5, 3) := by decide +kernel
theorem dL_law_932 : decode cL_law 932 = .ok (.iconst 0, 1) := by decide +kernel
theorem dL_law_933 : decode cL_law 933 = .ok (.ireturn, 1) := by decide +kernel
theorem dL_law_934 : decode cL_law 934 = .ok (.iload 5, 2) := by decide +kernel
theorem dL_law_936 : decode cL_law 936 = .ok (.ifCond .ne 15, 3) := by decide +kernel
theorem dL_law_939 : decode cL_law 939 = .ok (.aload_n 3, 1) := by decide +kernel
theorem dL_law_940 : decode cL_law 940 = .ok (.iconst 0, 1) := by decide +kernel
theorem dL_law_941 : decode cL_law 941 = .ok (.laload, 1) := by decide +kernel
theorem dL_law_942 : decode cL_law 942 = .ok (.iload 6, 2) := by decide +kernel
theorem dL_law_944 : decode cL_law 944 = .ok (.i2l, 1) := by decide +kernel
theorem dL_law_945 : decode cL_law 945 = .ok (.lcmp, 1) := by decide +kernel
theorem dL_law_946 : decode cL_law 946 = .ok (.ifCond .eq 5, 3) := by decide +kernel
theorem dL_law_949 : decode cL_law 949 = .ok (.iconst 0, 1) := by decide +kernel
theorem dL_law_950 : decode cL_law 950 = .ok (.ireturn, 1) := by decide +kernel
theorem dL_law_951 : decode cL_law 951 = .ok (.goto 759, 3) := by decide +kernel
theorem dL_law_954 : decode cL_law 954 = .ok (.aload_n 1, 1) := by decide +kernel
theorem dL_law_955 : decode cL_law 955 = .ok (.aload_n 0, 1) := by decide +kernel
theorem dL_law_956 : decode cL_law 956 = .ok (.iload 4, 2) := by decide +kernel
theorem dL_law_958 : decode cL_law 958 = .ok (.iconst 1, 1) := by decide +kernel
theorem dL_law_959 : decode cL_law 959 = .ok (.iadd, 1) := by decide +kernel
theorem dL_law_960 : decode cL_law 960 = .ok (.iaload, 1) := by decide +kernel
theorem dL_law_961 : decode cL_law 961 = .ok (.aload_n 3, 1) := by decide +kernel
theorem dL_law_962 : decode cL_law 962 = .ok (.invokestatic 139, 3) := by decide +kernel
theorem dL_law_965 : decode cL_law 965 = .ok (.istore 5, 2) := by decide +kernel
theorem dL_law_967 : decode cL_law 967 = .ok (.aload_n 2, 1) := by decide +kernel
theorem dL_law_968 : decode cL_law 968 = .ok (.aload_n 0, 1) := by decide +kernel
theorem dL_law_969 : decode cL_law 969 = .ok (.iload 4, 2) := by decide +kernel
theorem dL_law_971 : decode cL_law 971 = .ok (.iconst 1, 1) := by decide +kernel
theorem dL_law_972 : decode cL_law 972 = .ok (.iadd, 1) := by decide +kernel
theorem dL_law_973 : decode cL_law 973 = .ok (.iaload, 1) := by decide +kernel
theorem dL_law_974 : decode cL_law 974 = .ok (.invokevirtual 141, 3) := by decide +kernel
theorem dL_law_977 : decode cL_law 977 = .ok (.istore 6, 2) := by decide +kernel
theorem dL_law_979 : decode cL_law 979 = .ok (.aload_n 2, 1) := by decide +kernel
theorem dL_law_980 : decode cL_law 980 = .ok (.invokevirtual 99, 3) := by decide +kernel
theorem dL_law_983 : decode cL_law 983 = .ok (.iload 5, 2) := by decide +kernel
theorem dL_law_985 : decode cL_law 985 = .ok (.if_icmp .eq 5, 3) := by decide +kernel
theorem dL_law_988 : decode cL_law 988 = .ok (.iconst 0, 1) := by decide +kernel
theorem dL_law_989 : decode cL_law 989 = .ok (.ireturn, 1) := by decide +kernel
theorem dL_law_990 : decode cL_law 990 = .ok (.iload 5, 2) := by decide +kernel
theorem dL_law_992 : decode cL_law 992 = .ok (.ifCond .ne 15, 3) := by decide +kernel
theorem dL_law_995 : decode cL_law 995 = .ok (.aload_n 3, 1) := by decide +kernel
theorem dL_law_996 : decode cL_law 996 = .ok (.iconst 0, 1) := by decide +kernel
theorem dL_law_997 : decode cL_law 997 = .ok (.laload, 1) := by decide +kernel
theorem dL_law_998 : decode cL_law 998 = .ok (.iload 6, 2) := by decide +kernel
theorem dL_law_1000 : decode cL_law 1000 = .ok (.i2l, 1) := by decide +kernel
theorem dL_law_1001 : decode cL_law 1001 = .ok (.lcmp, 1) := by decide +kernel
theorem dL_law_1002 : decode cL_law 1002 = .ok (.ifCond .eq 5, 3) := by decide +kernel
theorem dL_law_1005 : decode cL_law 1005 = .ok (.iconst 0, 1) := by decide +kernel
theorem dL_law_1006 : decode cL_law 1006 = .ok (.ireturn, 1) := by decide +kernel
theorem dL_law_1007 : decode cL_law 1007 = .ok (.goto 703, 3) := by decide +kernel
theorem dL_law_1010 : decode cL_law 1010 = .ok (.aload_n 1, 1) := by decide +kernel
theorem dL_law_1011 : decode cL_law 1011 = .ok (.aload_n 0, 1) := by decide +kernel
theorem dL_law_1012 : decode cL_law 1012 = .ok (.iload 4, 2) := by decide +kernel
theorem dL_law_1014 : decode cL_law 1014 = .ok (.iconst 1, 1) := by decide +kernel
theorem dL_law_1015 : decode cL_law 1015 = .ok (.iadd, 1) := by decide +kernel
theorem dL_law_1016 : decode cL_law 1016 = .ok (.iaload, 1) := by decide +kernel
theorem dL_law_1017 : decode cL_law 1017 = .ok (.aload_n 3, 1) := by decide +kernel
theorem dL_law_1018 : decode cL_law 1018 = .ok (.invokestatic 142, 3) := by decide +kernel
theorem dL_law_1021 : decode cL_law 1021 = .ok (.istore 5, 2) := by decide +kernel
theorem dL_law_1023 : decode cL_law 1023 = .ok (.aload_n 2, 1) := by decide +kernel
theorem dL_law_1024 : decode cL_law 1024 = .ok (.aload_n 0, 1) := by decide +kernel
theorem dL_law_1025 : decode cL_law 1025 = .ok (.iload 4, 2) := by decide +kernel
theorem dL_law_1027 : decode cL_law 1027 = .ok (.iconst 1, 1) := by decide +kernel
theorem dL_law_1028 : decode cL_law 1028 = .ok (.iadd, 1) := by decide +kernel
theorem dL_law_1029 : decode cL_law 1029 = .ok (.iaload, 1) := by decide +kernel
theorem dL_law_1030 : decode cL_law 1030 = .ok (.invokevirtual 144, 3) := by decide +kernel
theorem dL_law_1033 : decode cL_law 1033 = .ok (.istore 6, 2) := by decide +kernel
theorem dL_law_1035 : decode cL_law 1035 = .ok (.aload_n 2, 1) := by decide +kernel
theorem dL_law_1036 : decode cL_law 1036 = .ok (.invokevirtual 99, 3) := by decide +kernel
theorem dL_law_1039 : decode cL_law 1039 = .ok (.iload 5, 2) := by decide +kernel
theorem dL_law_1041 : decode cL_law 1041 = .ok (.if_icmp .eq 5, 3) := by decide +kernel
theorem dL_law_1044 : decode cL_law 1044 = .ok (.iconst 0, 1) := by decide +kernel
theorem dL_law_1045 : decode cL_law 1045 = .ok (.ireturn, 1) := by decide +kernel
theorem dL_law_1046 : decode cL_law 1046 = .ok (.iload 5, 2) := by decide +kernel
theorem dL_law_1048 : decode cL_law 1048 = .ok (.ifCond .ne 15, 3) := by decide +kernel
theorem dL_law_1051 : decode cL_law 1051 = .ok (.aload_n 3, 1) := by decide +kernel
theorem dL_law_1052 : decode cL_law 1052 = .ok (.iconst 0, 1) := by decide +kernel
theorem dL_law_1053 : decode cL_law 1053 = .ok (.laload, 1) := by decide +kernel
theorem dL_law_1054 : decode cL_law 1054 = .ok (.iload 6, 2) := by decide +kernel
theorem dL_law_1056 : decode cL_law 1056 = .ok (.i2l, 1) := by decide +kernel
theorem dL_law_1057 : decode cL_law 1057 = .ok (.lcmp, 1) := by decide +kernel
theorem dL_law_1058 : decode cL_law 1058 = .ok (.ifCond .eq 5, 3) := by decide +kernel
theorem dL_law_1061 : decode cL_law 1061 = .ok (.iconst 0, 1) := by decide +kernel
theorem dL_law_1062 : decode cL_law 1062 = .ok (.ireturn, 1) := by decide +kernel
theorem dL_law_1063 : decode cL_law 1063 = .ok (.goto 647, 3) := by decide +kernel
theorem dL_law_1066 : decode cL_law 1066 = .ok (.aload_n 1, 1) := by decide +kernel
theorem dL_law_1067 : decode cL_law 1067 = .ok (.invokevirtual 145, 3) := by decide +kernel
theorem dL_law_1070 : decode cL_law 1070 = .ok (.aload_n 2, 1) := by decide +kernel
theorem dL_law_1071 : decode cL_law 1071 = .ok (.invokevirtual 148, 3) := by decide +kernel
theorem dL_law_1074 : decode cL_law 1074 = .ok (.if_icmp .eq 636, 3) := by decide +kernel
theorem dL_law_1077 : decode cL_law 1077 = .ok (.iconst 0, 1) := by decide +kernel
theorem dL_law_1078 : decode cL_law 1078 = .ok (.ireturn, 1) := by decide +kernel
theorem dL_law_1079 : decode cL_law 1079 = .ok (.aload_n 1, 1) := by decide +kernel
theorem dL_law_1080 : decode cL_law 1080 = .ok (.aload_n 0, 1) := by decide +kernel
theorem dL_law_1081 : decode cL_law 1081 = .ok (.iload 4, 2) := by decide +kernel
theorem dL_law_1083 : decode cL_law 1083 = .ok (.iconst 1, 1) := by decide +kernel
theorem dL_law_1084 : decode cL_law 1084 = .ok (.iadd, 1) := by decide +kernel
theorem dL_law_1085 : decode cL_law 1085 = .ok (.iaload, 1) := by decide +kernel
theorem dL_law_1086 : decode cL_law 1086 = .ok (.aload_n 3, 1) := by decide +kernel
theorem dL_law_1087 : decode cL_law 1087 = .ok (.invokestatic 149, 3) := by decide +kernel
theorem dL_law_1090 : decode cL_law 1090 = .ok (.istore 5, 2) := by decide +kernel
theorem dL_law_1092 : decode cL_law 1092 = .ok (.aload_n 2, 1) := by decide +kernel
theorem dL_law_1093 : decode cL_law 1093 = .ok (.aload_n 0, 1) := by decide +kernel
theorem dL_law_1094 : decode cL_law 1094 = .ok (.iload 4, 2) := by decide +kernel
theorem dL_law_1096 : decode cL_law 1096 = .ok (.iconst 1, 1) := by decide +kernel
theorem dL_law_1097 : decode cL_law 1097 = .ok (.iadd, 1) := by decide +kernel
theorem dL_law_1098 : decode cL_law 1098 = .ok (.iaload, 1) := by decide +kernel
theorem dL_law_1099 : decode cL_law 1099 = .ok (.invokevirtual 151, 3) := by decide +kernel
theorem dL_law_1102 : decode cL_law 1102 = .ok (.istore 6, 2) := by decide +kernel
theorem dL_law_1104 : decode cL_law 1104 = .ok (.aload_n 2, 1) := by decide +kernel
theorem dL_law_1105 : decode cL_law 1105 = .ok (.invokevirtual 99, 3) := by decide +kernel
theorem dL_law_1108 : decode cL_law 1108 = .ok (.iload 5, 2) := by decide +kernel
theorem dL_law_1110 : decode cL_law 1110 = .ok (.if_icmp .eq 5, 3) := by decide +kernel
theorem dL_law_1113 : decode cL_law 1113 = .ok (.iconst 0, 1) := by decide +kernel
theorem dL_law_1114 : decode cL_law 1114 = .ok (.ireturn, 1) := by decide +kernel
theorem dL_law_1115 : decode cL_law 1115 = .ok (.iload 5, 2) := by decide +kernel
theorem dL_law_1117 : decode cL_law 1117 = .ok (.ifCond .ne 15, 3) := by decide +kernel
theorem dL_law_1120 : decode cL_law 1120 = .ok (.aload_n 3, 1) := by decide +kernel
theorem dL_law_1121 : decode cL_law 1121 = .ok (.iconst 0, 1) := by decide +kernel
theorem dL_law_1122 : decode cL_law 1122 = .ok (.laload, 1) := by decide +kernel
theorem dL_law_1123 : decode cL_law 1123 = .ok (.iload 6, 2) := by decide +kernel
theorem dL_law_1125 : decode cL_law 1125 = .ok (.i2l, 1) := by decide +kernel
theorem dL_law_1126 : decode cL_law 1126 = .ok (.lcmp, 1) := by decide +kernel
theorem dL_law_1127 : decode cL_law 1127 = .ok (.ifCond .eq 5, 3) := by decide +kernel
theorem dL_law_1130 : decode cL_law 1130 = .ok (.iconst 0, 1) := by decide +kernel
theorem dL_law_1131 : decode cL_law 1131 = .ok (.ireturn, 1) := by decide +kernel
theorem dL_law_1132 : decode cL_law 1132 = .ok (.goto 578, 3) := by decide +kernel
theorem dL_law_1135 : decode cL_law 1135 = .ok (.aload_n 1, 1) := by decide +kernel
theorem dL_law_1136 : decode cL_law 1136 = .ok (.invokevirtual 152, 3) := by decide +kernel
theorem dL_law_1139 : decode cL_law 1139 = .ok (.aload_n 2, 1) := by decide +kernel
theorem dL_law_1140 : decode cL_law 1140 = .ok (.invokevirtual 155, 3) := by decide +kernel
theorem dL_law_1143 : decode cL_law 1143 = .ok (.if_icmp .eq 567, 3) := by decide +kernel
theorem dL_law_1146 : decode cL_law 1146 = .ok (.iconst 0, 1) := by decide +kernel
theorem dL_law_1147 : decode cL_law 1147 = .ok (.ireturn, 1) := by decide +kernel
theorem dL_law_1148 : decode cL_law 1148 = .ok (.aload_n 1, 1) := by decide +kernel
theorem dL_law_1149 : decode cL_law 1149 = .ok (.invokevirtual 156, 3) := by decide +kernel
theorem dL_law_1152 : decode cL_law 1152 = .ok (.f2d, 1) := by decide +kernel
theorem dL_law_1153 : decode cL_law 1153 = .ok (.dstore 5, 2) := by decide +kernel
theorem dL_law_1155 : decode cL_law 1155 = .ok (.aload_n 2, 1) := by decide +kernel
theorem dL_law_1156 : decode cL_law 1156 = .ok (.invokevirtual 160, 3) := by decide +kernel
theorem dL_law_1159 : decode cL_law 1159 = .ok (.f2d, 1) := by decide +kernel
theorem dL_law_1160 : decode cL_law 1160 = .ok (.dstore 7, 2) := by decide +kernel
theorem dL_law_1162 : decode cL_law 1162 = .ok (.dload 5, 2) := by decide +kernel
theorem dL_law_1164 : decode cL_law 1164 = .ok (.dload 7, 2) := by decide +kernel
theorem dL_law_1166 : decode cL_law 1166 = .ok (.dcmp .l, 1) := by decide +kernel
theorem dL_law_1167 : decode cL_law 1167 = .ok (.ifCond .eq 21, 3) := by decide +kernel
theorem dL_law_1170 : decode cL_law 1170 = .ok (.dload 5, 2) := by decide +kernel
theorem dL_law_1172 : decode cL_law 1172 = .ok (.dload 5, 2) := by decide +kernel
theorem dL_law_1174 : decode cL_law 1174 = .ok (.dcmp .l, 1) := by decide +kernel
theorem dL_law_1175 : decode cL_law 1175 = .ok (.ifCond .eq 11, 3) := by decide +kernel
theorem dL_law_1178 : decode cL_law 1178 = .ok (.dload 7, 2) := by decide +kernel
theorem dL_law_1180 : decode cL_law 1180 = .ok (.dload 7, 2) := by decide +kernel
theorem dL_law_1182 : decode cL_law 1182 = .ok (.dcmp .l, 1) := by decide +kernel
theorem dL_law_1183 : decode cL_law 1183 = .ok (.ifCond .ne 5, 3) := by decide +kernel
theorem dL_law_1186 : decode cL_law 1186 = .ok (.iconst 0, 1) := by decide +kernel
theorem dL_law_1187 : decode cL_law 1187 = .ok (.ireturn, 1) := by decide +kernel
theorem dL_law_1188 : decode cL_law 1188 = .ok (.goto 522, 3) := by decide +kernel
theorem dL_law_1191 : decode cL_law 1191 = .ok (.aload_n 1, 1) := by decide +kernel
theorem dL_law_1192 : decode cL_law 1192 = .ok (.aload_n 0, 1) := by decide +kernel
theorem dL_law_1193 : decode cL_law 1193 = .ok (.iload 4, 2) := by decide +kernel
theorem dL_law_1195 : decode cL_law 1195 = .ok (.iconst 1, 1) := by decide +kernel
theorem dL_law_1196 : decode cL_law 1196 = .ok (.iadd, 1) := by decide +kernel
theorem dL_law_1197 : decode cL_law 1197 = .ok (.iaload, 1) := by decide +kernel
theorem dL_law_1198 : decode cL_law 1198 = .ok (.aload_n 0, 1) := by decide +kernel
theorem dL_law_1199 : decode cL_law 1199 = .ok (.iload 4, 2) := by decide +kernel
theorem dL_law_1201 : decode cL_law 1201 = .ok (.iconst 2, 1) := by decide +kernel
theorem dL_law_1202 : decode cL_law 1202 = .ok (.iadd, 1) := by decide +kernel
theorem dL_law_1203 : decode cL_law 1203 = .ok (.iaload, 1) := by decide +kernel
theorem dL_law_1204 : decode cL_law 1204 = .ok (.aload_n 0, 1) := by decide +kernel
theorem dL_law_1205 : decode cL_law 1205 = .ok (.iload 4, 2) := by decide +kernel
theorem dL_law_1207 : decode cL_law 1207 = .ok (.iconst 3, 1) := by decide +kernel
theorem dL_law_1208 : decode cL_law 1208 = .ok (.iadd, 1) := by decide +kernel
theorem dL_law_1209 : decode cL_law 1209 = .ok (.iaload, 1) := by decide +kernel
theorem dL_law_1210 : decode cL_law 1210 = .ok (.aload_n 3, 1) := by decide +kernel
theorem dL_law_1211 : decode cL_law 1211 = .ok (.invokestatic 161, 3) := by decide +kernel
theorem dL_law_1214 : decode cL_law 1214 = .ok (.istore 5, 2) := by decide +kernel
theorem dL_law_1216 : decode cL_law 1216 = .ok (.aload_n 2, 1) := by decide +kernel
theorem dL_law_1217 : decode cL_law 1217 = .ok (.aload_n 0, 1) := by decide +kernel
theorem dL_law_1218 : decode cL_law 1218 = .ok (.iload 4, 2) := by decide +kernel
theorem dL_law_1220 : decode cL_law 1220 = .ok (.iconst 1, 1) := by decide +kernel
theorem dL_law_1221 : decode cL_law 1221 = .ok (.iadd, 1) := by decide +kernel
theorem dL_law_1222 : decode cL_law 1222 = .ok (.iaload, 1) := by decide +kernel
theorem dL_law_1223 : decode cL_law 1223 = .ok (.aload_n 0, 1) := by decide +kernel
theorem dL_law_1224 : decode cL_law 1224 = .ok (.iload 4, 2) := by decide +kernel
theorem dL_law_1226 : decode cL_law 1226 = .ok (.iconst 2, 1) := by decide +kernel
theorem dL_law_1227 : decode cL_law 1227 = .ok (.iadd, 1) := by decide +kernel
theorem dL_law_1228 : decode cL_law 1228 = .ok (.iaload, 1) := by decide +kernel
theorem dL_law_1229 : decode cL_law 1229 = .ok (.aload_n 0, 1) := by decide +kernel
theorem dL_law_1230 : decode cL_law 1230 = .ok (.iload 4, 2) := by decide +kernel
theorem dL_law_1232 : decode cL_law 1232 = .ok (.iconst 3, 1) := by decide +kernel
theorem dL_law_1233 : decode cL_law 1233 = .ok (.iadd, 1) := by decide +kernel
theorem dL_law_1234 : decode cL_law 1234 = .ok (.iaload, 1) := by decide +kernel
theorem dL_law_1235 : decode cL_law 1235 = .ok (.invokevirtual 163, 3) := by decide +kernel
theorem dL_law_1238 : decode cL_law 1238 = .ok (.istore 6, 2) := by decide +kernel
theorem dL_law_1240 : decode cL_law 1240 = .ok (.aload_n 2, 1) := by decide +kernel
theorem dL_law_1241 : decode cL_law 1241 = .ok (.invokevirtual 99, 3) := by decide +kernel
theorem dL_law_1244 : decode cL_law 1244 = .ok (.iload 5, 2) := by decide +kernel
theorem dL_law_1246 : decode cL_law 1246 = .ok (.if_icmp .eq 5, 3) := by decide +kernel
theorem dL_law_1249 : decode cL_law 1249 = .ok (.iconst 0, 1) := by decide +kernel
theorem dL_law_1250 : decode cL_law 1250 = .ok (.ireturn, 1) := by decide +kernel
theorem dL_law_1251 : decode cL_law 1251 = .ok (.iload 5, 2) := by decide +kernel
theorem dL_law_1253 : decode cL_law 1253 = .ok (.ifCond .ne 15, 3) := by decide +kernel
theorem dL_law_1256 : decode cL_law 1256 = .ok (.aload_n 3, 1) := by decide +kernel
theorem dL_law_1257 : decode cL_law 1257 = .ok (.iconst 0, 1) := by decide +kernel
theorem dL_law_1258 : decode cL_law 1258 = .ok (.laload, 1) := by decide +kernel
theorem dL_law_1259 : decode cL_law 1259 = .ok (.iload 6, 2) := by decide +kernel
theorem dL_law_1261 : decode cL_law 1261 = .ok (.i2l, 1) := by decide +kernel
theorem dL_law_1262 : decode cL_law 1262 = .ok (.lcmp, 1) := by decide +kernel
theorem dL_law_1263 : decode cL_law 1263 = .ok (.ifCond .eq 5, 3) := by decide +kernel
theorem dL_law_1266 : decode cL_law 1266 = .ok (.iconst 0, 1) := by decide +kernel
theorem dL_law_1267 : decode cL_law 1267 = .ok (.ireturn, 1) := by decide +kernel
theorem dL_law_1268 : decode cL_law 1268 = .ok (.goto 442, 3) := by decide +kernel
theorem dL_law_1271 : decode cL_law 1271 = .ok (.aload_n 1, 1) := by decide +kernel
theorem dL_law_1272 : decode cL_law 1272 = .ok (.aload_n 0, 1) := by decide +kernel
theorem dL_law_1273 : decode cL_law 1273 = .ok (.iload 4, 2) := by decide +kernel
theorem dL_law_1275 : decode cL_law 1275 = .ok (.iconst 1, 1) := by decide +kernel
theorem dL_law_1276 : decode cL_law 1276 = .ok (.iadd, 1) := by decide +kernel
theorem dL_law_1277 : decode cL_law 1277 = .ok (.iaload, 1) := by decide +kernel
theorem dL_law_1278 : decode cL_law 1278 = .ok (.aload_n 0, 1) := by decide +kernel
theorem dL_law_1279 : decode cL_law 1279 = .ok (.iload 4, 2) := by decide +kernel
theorem dL_law_1281 : decode cL_law 1281 = .ok (.iconst 2, 1) := by decide +kernel
theorem dL_law_1282 : decode cL_law 1282 = .ok (.iadd, 1) := by decide +kernel
theorem dL_law_1283 : decode cL_law 1283 = .ok (.iaload, 1) := by decide +kernel
theorem dL_law_1284 : decode cL_law 1284 = .ok (.aload_n 0, 1) := by decide +kernel
theorem dL_law_1285 : decode cL_law 1285 = .ok (.iload 4, 2) := by decide +kernel
theorem dL_law_1287 : decode cL_law 1287 = .ok (.iconst 3, 1) := by decide +kernel
theorem dL_law_1288 : decode cL_law 1288 = .ok (.iadd, 1) := by decide +kernel
theorem dL_law_1289 : decode cL_law 1289 = .ok (.iaload, 1) := by decide +kernel
theorem dL_law_1290 : decode cL_law 1290 = .ok (.aload_n 3, 1) := by decide +kernel
theorem dL_law_1291 : decode cL_law 1291 = .ok (.invokestatic 164, 3) := by decide +kernel
theorem dL_law_1294 : decode cL_law 1294 = .ok (.istore 5, 2) := by decide +kernel
theorem dL_law_1296 : decode cL_law 1296 = .ok (.aload_n 2, 1) := by decide +kernel
theorem dL_law_1297 : decode cL_law 1297 = .ok (.aload_n 0, 1) := by decide +kernel
theorem dL_law_1298 : decode cL_law 1298 = .ok (.iload 4, 2) := by decide +kernel
theorem dL_law_1300 : decode cL_law 1300 = .ok (.iconst 1, 1) := by decide +kernel
theorem dL_law_1301 : decode cL_law 1301 = .ok (.iadd, 1) := by decide +kernel
theorem dL_law_1302 : decode cL_law 1302 = .ok (.iaload, 1) := by decide +kernel
theorem dL_law_1303 : decode cL_law 1303 = .ok (.aload_n 0, 1) := by decide +kernel
theorem dL_law_1304 : decode cL_law 1304 = .ok (.iload 4, 2) := by decide +kernel
theorem dL_law_1306 : decode cL_law 1306 = .ok (.iconst 2, 1) := by decide +kernel
theorem dL_law_1307 : decode cL_law 1307 = .ok (.iadd, 1) := by decide +kernel
theorem dL_law_1308 : decode cL_law 1308 = .ok (.iaload, 1) := by decide +kernel
theorem dL_law_1309 : decode cL_law 1309 = .ok (.aload_n 0, 1) := by decide +kernel
theorem dL_law_1310 : decode cL_law 1310 = .ok (.iload 4, 2) := by decide +kernel
theorem dL_law_1312 : decode cL_law 1312 = .ok (.iconst 3, 1) := by decide +kernel
theorem dL_law_1313 : decode cL_law 1313 = .ok (.iadd, 1) := by decide +kernel
theorem dL_law_1314 : decode cL_law 1314 = .ok (.iaload, 1) := by decide +kernel
theorem dL_law_1315 : decode cL_law 1315 = .ok (.invokevirtual 166, 3) := by decide +kernel
theorem dL_law_1318 : decode cL_law 1318 = .ok (.istore 6, 2) := by decide +kernel
theorem dL_law_1320 : decode cL_law 1320 = .ok (.aload_n 2, 1) := by decide +kernel
theorem dL_law_1321 : decode cL_law 1321 = .ok (.invokevirtual 99, 3) := by decide +kernel
theorem dL_law_1324 : decode cL_law 1324 = .ok (.iload 5, 2) := by decide +kernel
theorem dL_law_1326 : decode cL_law 1326 = .ok (.if_icmp .eq 5, 3) := by decide +kernel
theorem dL_law_1329 : decode cL_law 1329 = .ok (.iconst 0, 1) := by decide +kernel
theorem dL_law_1330 : decode cL_law 1330 = .ok (.ireturn, 1) := by decide +kernel
theorem dL_law_1331 : decode cL_law 1331 = .ok (.iload 5, 2) := by decide +kernel
theorem dL_law_1333 : decode cL_law 1333 = .ok (.ifCond .ne 15, 3) := by decide +kernel
theorem dL_law_1336 : decode cL_law 1336 = .ok (.aload_n 3, 1) := by decide +kernel
theorem dL_law_1337 : decode cL_law 1337 = .ok (.iconst 0, 1) := by decide +kernel
theorem dL_law_1338 : decode cL_law 1338 = .ok (.laload, 1) := by decide +kernel
theorem dL_law_1339 : decode cL_law 1339 = .ok (.iload 6, 2) := by decide +kernel
theorem dL_law_1341 : decode cL_law 1341 = .ok (.i2l, 1) := by decide +kernel
theorem dL_law_1342 : decode cL_law 1342 = .ok (.lcmp, 1) := by decide +kernel
theorem dL_law_1343 : decode cL_law 1343 = .ok (.ifCond .eq 5, 3) := by decide +kernel
theorem dL_law_1346 : decode cL_law 1346 = .ok (.iconst 0, 1) := by decide +kernel
theorem dL_law_1347 : decode cL_law 1347 = .ok (.ireturn, 1) := by decide +kernel
theorem dL_law_1348 : decode cL_law 1348 = .ok (.goto 362, 3) := by decide +kernel
theorem dL_law_1351 : decode cL_law 1351 = .ok (.aload_n 1, 1) := by decide +kernel
theorem dL_law_1352 : decode cL_law 1352 = .ok (.aload_n 0, 1) := by decide +kernel
theorem dL_law_1353 : decode cL_law 1353 = .ok (.iload 4, 2) := by decide +kernel
theorem dL_law_1355 : decode cL_law 1355 = .ok (.iconst 1, 1) := by decide +kernel
theorem dL_law_1356 : decode cL_law 1356 = .ok (.iadd, 1) := by decide +kernel
theorem dL_law_1357 : decode cL_law 1357 = .ok (.iaload, 1) := by decide +kernel
theorem dL_law_1358 : decode cL_law 1358 = .ok (.aload_n 0, 1) := by decide +kernel
theorem dL_law_1359 : decode cL_law 1359 = .ok (.iload 4, 2) := by decide +kernel
theorem dL_law_1361 : decode cL_law 1361 = .ok (.iconst 2, 1) := by decide +kernel
theorem dL_law_1362 : decode cL_law 1362 = .ok (.iadd, 1) := by decide +kernel
theorem dL_law_1363 : decode cL_law 1363 = .ok (.iaload, 1) := by decide +kernel
theorem dL_law_1364 : decode cL_law 1364 = .ok (.ifCond .eq 7, 3) := by decide +kernel
theorem dL_law_1367 : decode cL_law 1367 = .ok (.iconst 1, 1) := by decide +kernel
theorem dL_law_1368 : decode cL_law 1368 = .ok (.goto 4, 3) := by decide +kernel
theorem dL_law_1371 : decode cL_law 1371 = .ok (.iconst 0, 1) := by decide +kernel
theorem dL_law_1372 : decode cL_law 1372 = .ok (.aload_n 3, 1) := by decide +kernel
theorem dL_law_1373 : decode cL_law 1373 = .ok (.invokestatic 167, 3) := by decide +kernel
theorem dL_law_1376 : decode cL_law 1376 = .ok (.istore 5, 2) := by decide +kernel
theorem dL_law_1378 : decode cL_law 1378 = .ok (.aload_n 2, 1) := by decide +kernel
theorem dL_law_1379 : decode cL_law 1379 = .ok (.aload_n 0, 1) := by decide +kernel
theorem dL_law_1380 : decode cL_law 1380 = .ok (.iload 4, 2) := by decide +kernel
theorem dL_law_1382 : decode cL_law 1382 = .ok (.iconst 1, 1) := by decide +kernel
theorem dL_law_1383 : decode cL_law 1383 = .ok (.iadd, 1) := by decide +kernel
theorem dL_law_1384 : decode cL_law 1384 = .ok (.iaload, 1) := by decide +kernel
theorem dL_law_1385 : decode cL_law 1385 = .ok (.aload_n 0, 1) := by decide +kernel
theorem dL_law_1386 : decode cL_law 1386 = .ok (.iload 4, 2) := by decide +kernel
theorem dL_law_1388 : decode cL_law 1388 = .ok (.iconst 2, 1) := by decide +kernel
theorem dL_law_1389 : decode cL_law 1389 = .ok (.iadd, 1) := by decide +kernel
theorem dL_law_1390 : decode cL_law 1390 = .ok (.iaload, 1) := by decide +kernel
theorem dL_law_1391 : decode cL_law 1391 = .ok (.ifCond .eq 7, 3) := by decide +kernel
theorem dL_law_1394 : decode cL_law 1394 = .ok (.iconst 1, 1) := by decide +kernel
theorem dL_law_1395 : decode cL_law 1395 = .ok (.goto 4, 3) := by decide +kernel
theorem dL_law_1398 : decode cL_law 1398 = .ok (.iconst 0, 1) := by decide +kernel
theorem dL_law_1399 : decode cL_law 1399 = .ok (.invokevirtual 170, 3) := by decide +kernel
theorem dL_law_1402 : decode cL_law 1402 = .ok (.istore 6, 2) := by decide +kernel
theorem dL_law_1404 : decode cL_law 1404 = .ok (.aload_n 2, 1) := by decide +kernel
theorem dL_law_1405 : decode cL_law 1405 = .ok (.invokevirtual 99, 3) := by decide +kernel
theorem dL_law_1408 : decode cL_law 1408 = .ok (.iload 5, 2) := by decide +kernel
theorem dL_law_1410 : decode cL_law 1410 = .ok (.if_icmp .eq 5, 3) := by decide +kernel
theorem dL_law_1413 : decode cL_law 1413 = .ok (.iconst 0, 1) := by decide +kernel
theorem dL_law_1414 : decode cL_law 1414 = .ok (.ireturn, 1) := by decide +kernel
theorem dL_law_1415 : decode cL_law 1415 = .ok (.iload 5, 2) := by decide +kernel
theorem dL_law_1417 : decode cL_law 1417 = .ok (.ifCond .ne 15, 3) := by decide +kernel
theorem dL_law_1420 : decode cL_law 1420 = .ok (.aload_n 3, 1) := by decide +kernel
theorem dL_law_1421 : decode cL_law 1421 = .ok (.iconst 0, 1) := by decide +kernel
theorem dL_law_1422 : decode cL_law 1422 = .ok (.laload, 1) := by decide +kernel
theorem dL_law_1423 : decode cL_law 1423 = .ok (.iload 6, 2) := by decide +kernel
theorem dL_law_1425 : decode cL_law 1425 = .ok (.i2l, 1) := by decide +kernel
theorem dL_law_1426 : decode cL_law 1426 = .ok (.lcmp, 1) := by decide +kernel
theorem dL_law_1427 : decode cL_law 1427 = .ok (.ifCond .eq 5, 3) := by decide +kernel
theorem dL_law_1430 : decode cL_law 1430 = .ok (.iconst 0, 1) := by decide +kernel
theorem dL_law_1431 : decode cL_law 1431 = .ok (.ireturn, 1) := by decide +kernel
theorem dL_law_1432 : decode cL_law 1432 = .ok (.goto 278, 3) := by decide +kernel
theorem dL_law_1435 : decode cL_law 1435 = .ok (.aload_n 1, 1) := by decide +kernel
theorem dL_law_1436 : decode cL_law 1436 = .ok (.aload_n 0, 1) := by decide +kernel
theorem dL_law_1437 : decode cL_law 1437 = .ok (.iload 4, 2) := by decide +kernel
theorem dL_law_1439 : decode cL_law 1439 = .ok (.iconst 1, 1) := by decide +kernel
theorem dL_law_1440 : decode cL_law 1440 = .ok (.iadd, 1) := by decide +kernel
theorem dL_law_1441 : decode cL_law 1441 = .ok (.iaload, 1) := by decide +kernel
theorem dL_law_1442 : decode cL_law 1442 = .ok (.aload_n 0, 1) := by decide +kernel
theorem dL_law_1443 : decode cL_law 1443 = .ok (.iload 4, 2) := by decide +kernel
theorem dL_law_1445 : decode cL_law 1445 = .ok (.iconst 2, 1) := by decide +kernel
theorem dL_law_1446 : decode cL_law 1446 = .ok (.iadd, 1) := by decide +kernel
theorem dL_law_1447 : decode cL_law 1447 = .ok (.iaload, 1) := by decide +kernel
theorem dL_law_1448 : decode cL_law 1448 = .ok (.aload_n 3, 1) := by decide +kernel
theorem dL_law_1449 : decode cL_law 1449 = .ok (.invokestatic 171, 3) := by decide +kernel
theorem dL_law_1452 : decode cL_law 1452 = .ok (.istore 5, 2) := by decide +kernel
theorem dL_law_1454 : decode cL_law 1454 = .ok (.aload_n 2, 1) := by decide +kernel
theorem dL_law_1455 : decode cL_law 1455 = .ok (.aload_n 0, 1) := by decide +kernel
theorem dL_law_1456 : decode cL_law 1456 = .ok (.iload 4, 2) := by decide +kernel
theorem dL_law_1458 : decode cL_law 1458 = .ok (.iconst 1, 1) := by decide +kernel
theorem dL_law_1459 : decode cL_law 1459 = .ok (.iadd, 1) := by decide +kernel
theorem dL_law_1460 : decode cL_law 1460 = .ok (.iaload, 1) := by decide +kernel
theorem dL_law_1461 : decode cL_law 1461 = .ok (.aload_n 0, 1) := by decide +kernel
theorem dL_law_1462 : decode cL_law 1462 = .ok (.iload 4, 2) := by decide +kernel
theorem dL_law_1464 : decode cL_law 1464 = .ok (.iconst 2, 1) := by decide +kernel
theorem dL_law_1465 : decode cL_law 1465 = .ok (.iadd, 1) := by decide +kernel
theorem dL_law_1466 : decode cL_law 1466 = .ok (.iaload, 1) := by decide +kernel
theorem dL_law_1467 : decode cL_law 1467 = .ok (.invokevirtual 173, 3) := by decide +kernel
theorem dL_law_1470 : decode cL_law 1470 = .ok (.istore 6, 2) := by decide +kernel
theorem dL_law_1472 : decode cL_law 1472 = .ok (.aload_n 2, 1) := by decide +kernel
theorem dL_law_1473 : decode cL_law 1473 = .ok (.invokevirtual 99, 3) := by decide +kernel
theorem dL_law_1476 : decode cL_law 1476 = .ok (.iload 5, 2) := by decide +kernel
theorem dL_law_1478 : decode cL_law 1478 = .ok (.if_icmp .eq 5, 3) := by decide +kernel
theorem dL_law_1481 : decode cL_law 1481 = .ok (.iconst 0, 1) := by decide +kernel
theorem dL_law_1482 : decode cL_law 1482 = .ok (.ireturn, 1) := by decide +kernel
theorem dL_law_1483 : decode cL_law 1483 = .ok (.iload 5, 2) := by decide +kernel
theorem dL_law_1485 : decode cL_law 1485 = .ok (.ifCond .ne 15, 3) := by decide +kernel
theorem dL_law_1488 : decode cL_law 1488 = .ok (.aload_n 3, 1) := by decide +kernel
theorem dL_law_1489 : decode cL_law 1489 = .ok (.iconst 0, 1) := by decide +kernel
theorem dL_law_1490 : decode cL_law 1490 = .ok (.laload, 1) := by decide +kernel
theorem dL_law_1491 : decode cL_law 1491 = .ok (.iload 6, 2) := by decide +kernel
theorem dL_law_1493 : decode cL_law 1493 = .ok (.i2l, 1) := by decide +kernel
theorem dL_law_1494 : decode cL_law 1494 = .ok (.lcmp, 1) := by decide +kernel
theorem dL_law_1495 : decode cL_law 1495 = .ok (.ifCond .eq 5, 3) := by decide +kernel
theorem dL_law_1498 : decode cL_law 1498 = .ok (.iconst 0, 1) := by decide +kernel
theorem dL_law_1499 : decode cL_law 1499 = .ok (.ireturn, 1) := by decide +kernel
theorem dL_law_1500 : decode cL_law 1500 = .ok (.goto 210, 3) := by decide +kernel
theorem dL_law_1503 : decode cL_law 1503 = .ok (.aload_n 1, 1) := by decide +kernel
theorem dL_law_1504 : decode cL_law 1504 = .ok (.aload_n 0, 1) := by decide +kernel
theorem dL_law_1505 : decode cL_law 1505 = .ok (.iload 4, 2) := by decide +kernel
theorem dL_law_1507 : decode cL_law 1507 = .ok (.iconst 1, 1) := by decide +kernel
theorem dL_law_1508 : decode cL_law 1508 = .ok (.iadd, 1) := by decide +kernel
theorem dL_law_1509 : decode cL_law 1509 = .ok (.iaload, 1) := by decide +kernel
theorem dL_law_1510 : decode cL_law 1510 = .ok (.aload_n 0, 1) := by decide +kernel
theorem dL_law_1511 : decode cL_law 1511 = .ok (.iload 4, 2) := by decide +kernel
theorem dL_law_1513 : decode cL_law 1513 = .ok (.iconst 2, 1) := by decide +kernel
theorem dL_law_1514 : decode cL_law 1514 = .ok (.iadd, 1) := by decide +kernel
theorem dL_law_1515 : decode cL_law 1515 = .ok (.iaload, 1) := by decide +kernel
theorem dL_law_1516 : decode cL_law 1516 = .ok (.aload_n 3, 1) := by decide +kernel
theorem dL_law_1517 : decode cL_law 1517 = .ok (.invokestatic 174, 3) := by decide +kernel
theorem dL_law_1520 : decode cL_law 1520 = .ok (.istore 5, 2) := by decide +kernel
theorem dL_law_1522 : decode cL_law 1522 = .ok (.aload_n 2, 1) := by decide +kernel
theorem dL_law_1523 : decode cL_law 1523 = .ok (.aload_n 0, 1) := by decide +kernel
theorem dL_law_1524 : decode cL_law 1524 = .ok (.iload 4, 2) := by decide +kernel
theorem dL_law_1526 : decode cL_law 1526 = .ok (.iconst 1, 1) := by decide +kernel
theorem dL_law_1527 : decode cL_law 1527 = .ok (.iadd, 1) := by decide +kernel
theorem dL_law_1528 : decode cL_law 1528 = .ok (.iaload, 1) := by decide +kernel
theorem dL_law_1529 : decode cL_law 1529 = .ok (.aload_n 0, 1) := by decide +kernel
theorem dL_law_1530 : decode cL_law 1530 = .ok (.iload 4, 2) := by decide +kernel
theorem dL_law_1532 : decode cL_law 1532 = .ok (.iconst 2, 1) := by decide +kernel
theorem dL_law_1533 : decode cL_law 1533 = .ok (.iadd, 1) := by decide +kernel
theorem dL_law_1534 : decode cL_law 1534 = .ok (.iaload, 1) := by decide +kernel
theorem dL_law_1535 : decode cL_law 1535 = .ok (.invokevirtual 176, 3) := by decide +kernel
theorem dL_law_1538 : decode cL_law 1538 = .ok (.istore 6, 2) := by decide +kernel
theorem dL_law_1540 : decode cL_law 1540 = .ok (.aload_n 2, 1) := by decide +kernel
theorem dL_law_1541 : decode cL_law 1541 = .ok (.invokevirtual 99, 3) := by decide +kernel
theorem dL_law_1544 : decode cL_law 1544 = .ok (.iload 5, 2) := by decide +kernel
theorem dL_law_1546 : decode cL_law 1546 = .ok (.if_icmp .eq 5, 3) := by decide +kernel
theorem dL_law_1549 : decode cL_law 1549 = .ok (.iconst 0, 1) := by decide +kernel
theorem dL_law_1550 : decode cL_law 1550 = .ok (.ireturn, 1) := by decide +kernel
theorem dL_law_1551 : decode cL_law 1551 = .ok (.iload 5, 2) := by decide +kernel
theorem dL_law_1553 : decode cL_law 1553 = .ok (.ifCond .ne 15, 3) := by decide +kernel
theorem dL_law_1556 : decode cL_law 1556 = .ok (.aload_n 3, 1) := by decide +kernel
theorem dL_law_1557 : decode cL_law 1557 = .ok (.iconst 0, 1) := by decide +kernel
theorem dL_law_1558 : decode cL_law 1558 = .ok (.laload, 1) := by decide +kernel
theorem dL_law_1559 : decode cL_law 1559 = .ok (.iload 6, 2) := by decide +kernel
theorem dL_law_1561 : decode cL_law 1561 = .ok (.i2l, 1) := by decide +kernel
theorem dL_law_1562 : decode cL_law 1562 = .ok (.lcmp, 1) := by decide +kernel
theorem dL_law_1563 : decode cL_law 1563 = .ok (.ifCond .eq 5, 3) := by decide +kernel
theorem dL_law_1566 : decode cL_law 1566 = .ok (.iconst 0, 1) := by decide +kernel
theorem dL_law_1567 : decode cL_law 1567 = .ok (.ireturn, 1) := by decide +kernel
theorem dL_law_1568 : decode cL_law 1568 = .ok (.goto 142, 3) := by decide +kernel
theorem dL_law_1571 : decode cL_law 1571 = .ok (.aload_n 1, 1) := by decide +kernel
theorem dL_law_1572 : decode cL_law 1572 = .ok (.aload_n 0, 1) := by decide +kernel
theorem dL_law_1573 : decode cL_law 1573 = .ok (.iload 4, 2) := by decide +kernel
theorem dL_law_1575 : decode cL_law 1575 = .ok (.iconst 1, 1) := by decide +kernel
theorem dL_law_1576 : decode cL_law 1576 = .ok (.iadd, 1) := by decide +kernel
theorem dL_law_1577 : decode cL_law 1577 = .ok (.iaload, 1) := by decide +kernel
theorem dL_law_1578 : decode cL_law 1578 = .ok (.aload_n 3, 1) := by decide +kernel
theorem dL_law_1579 : decode cL_law 1579 = .ok (.invokestatic 177, 3) := by decide +kernel
theorem dL_law_1582 : decode cL_law 1582 = .ok (.istore 5, 2) := by decide +kernel
theorem dL_law_1584 : decode cL_law 1584 = .ok (.aload_n 2, 1) := by decide +kernel
theorem dL_law_1585 : decode cL_law 1585 = .ok (.aload_n 0, 1) := by decide +kernel
theorem dL_law_1586 : decode cL_law 1586 = .ok (.iload 4, 2) := by decide +kernel
theorem dL_law_1588 : decode cL_law 1588 = .ok (.iconst 1, 1) := by decide +kernel
theorem dL_law_1589 : decode cL_law 1589 = .ok (.iadd, 1) := by decide +kernel
theorem dL_law_1590 : decode cL_law 1590 = .ok (.iaload, 1) := by decide +kernel
theorem dL_law_1591 : decode cL_law 1591 = .ok (.invokevirtual 179, 3) := by decide +kernel
theorem dL_law_1594 : decode cL_law 1594 = .ok (.istore 6, 2) := by decide +kernel
theorem dL_law_1596 : decode cL_law 1596 = .ok (.aload_n 2, 1) := by decide +kernel
theorem dL_law_1597 : decode cL_law 1597 = .ok (.invokevirtual 99, 3) := by decide +kernel
theorem dL_law_1600 : decode cL_law 1600 = .ok (.iload 5, 2) := by decide +kernel
theorem dL_law_1602 : decode cL_law 1602 = .ok (.if_icmp .eq 5, 3) := by decide +kernel
theorem dL_law_1605 : decode cL_law 1605 = .ok (.iconst 0, 1) := by decide +kernel
theorem dL_law_1606 : decode cL_law 1606 = .ok (.ireturn, 1) := by decide +kernel
theorem dL_law_1607 : decode cL_law 1607 = .ok (.iload 5, 2) := by decide +kernel
theorem dL_law_1609 : decode cL_law 1609 = .ok (.ifCond .ne 15, 3) := by decide +kernel
theorem dL_law_1612 : decode cL_law 1612 = .ok (.aload_n 3, 1) := by decide +kernel
theorem dL_law_1613 : decode cL_law 1613 = .ok (.iconst 0, 1) := by decide +kernel
theorem dL_law_1614 : decode cL_law 1614 = .ok (.laload, 1) := by decide +kernel
theorem dL_law_1615 : decode cL_law 1615 = .ok (.iload 6, 2) := by decide +kernel
theorem dL_law_1617 : decode cL_law 1617 = .ok (.i2l, 1) := by decide +kernel
theorem dL_law_1618 : decode cL_law 1618 = .ok (.lcmp, 1) := by decide +kernel
theorem dL_law_1619 : decode cL_law 1619 = .ok (.ifCond .eq 5, 3) := by decide +kernel
theorem dL_law_1622 : decode cL_law 1622 = .ok (.iconst 0, 1) := by decide +kernel
theorem dL_law_1623 : decode cL_law 1623 = .ok (.ireturn, 1) := by decide +kernel
theorem dL_law_1624 : decode cL_law 1624 = .ok (.goto 86, 3) := by decide +kernel
theorem dL_law_1627 : decode cL_law 1627 = .ok (.aload_n 1, 1) := by decide +kernel
theorem dL_law_1628 : decode cL_law 1628 = .ok (.aload_n 0, 1) := by decide +kernel
theorem dL_law_1629 : decode cL_law 1629 = .ok (.iload 4, 2) := by decide +kernel
theorem dL_law_1631 : decode cL_law 1631 = .ok (.iconst 1, 1) := by decide +kernel
theorem dL_law_1632 : decode cL_law 1632 = .ok (.iadd, 1) := by decide +kernel
theorem dL_law_1633 : decode cL_law 1633 = .ok (.iaload, 1) := by decide +kernel
theorem dL_law_1634 : decode cL_law 1634 = .ok (.aload_n 3, 1) := by decide +kernel
theorem dL_law_1635 : decode cL_law 1635 = .ok (.invokestatic 180, 3) := by decide +kernel
theorem dL_law_1638 : decode cL_law 1638 = .ok (.istore 5, 2) := by decide +kernel
theorem dL_law_1640 : decode cL_law 1640 = .ok (.aload_n 2, 1) := by decide +kernel
theorem dL_law_1641 : decode cL_law 1641 = .ok (.aload_n 0, 1) := by decide +kernel
theorem dL_law_1642 : decode cL_law 1642 = .ok (.iload 4, 2) := by decide +kernel
theorem dL_law_1644 : decode cL_law 1644 = .ok (.iconst 1, 1) := by decide +kernel
theorem dL_law_1645 : decode cL_law 1645 = .ok (.iadd, 1) := by decide +kernel
theorem dL_law_1646 : decode cL_law 1646 = .ok (.iaload, 1) := by decide +kernel
theorem dL_law_1647 : decode cL_law 1647 = .ok (.invokevirtual 182, 3) := by decide +kernel
theorem dL_law_1650 : decode cL_law 1650 = .ok (.istore 6, 2) := by decide +kernel
theorem dL_law_1652 : decode cL_law 1652 = .ok (.aload_n 2, 1) := by decide +kernel
theorem dL_law_1653 : decode cL_law 1653 = .ok (.invokevirtual 99, 3) := by decide +kernel
theorem dL_law_1656 : decode cL_law 1656 = .ok (.iload 5, 2) := by decide +kernel
theorem dL_law_1658 : decode cL_law 1658 = .ok (.if_icmp .eq 5, 3) := by decide +kernel
theorem dL_law_1661 : decode cL_law 1661 = .ok (.iconst 0, 1) := by decide +kernel
theorem dL_law_1662 : decode cL_law 1662 = .ok (.ireturn, 1) := by decide +kernel
theorem dL_law_1663 : decode cL_law 1663 = .ok (.iload 5, 2) := by decide +kernel
theorem dL_law_1665 : decode cL_law 1665 = .ok (.ifCond .ne 15, 3) := by decide +kernel
theorem dL_law_1668 : decode cL_law 1668 = .ok (.aload_n 3, 1) := by decide +kernel
theorem dL_law_1669 : decode cL_law 1669 = .ok (.iconst 0, 1) := by decide +kernel
theorem dL_law_1670 : decode cL_law 1670 = .ok (.laload, 1) := by decide +kernel
theorem dL_law_1671 : decode cL_law 1671 = .ok (.iload 6, 2) := by decide +kernel
theorem dL_law_1673 : decode cL_law 1673 = .ok (.i2l, 1) := by decide +kernel
theorem dL_law_1674 : decode cL_law 1674 = .ok (.lcmp, 1) := by decide +kernel
theorem dL_law_1675 : decode cL_law 1675 = .ok (.ifCond .eq 5, 3) := by decide +kernel
theorem dL_law_1678 : decode cL_law 1678 = .ok (.iconst 0, 1) := by decide +kernel
theorem dL_law_1679 : decode cL_law 1679 = .ok (.ireturn, 1) := by decide +kernel
theorem dL_law_1680 : decode cL_law 1680 = .ok (.goto 30, 3) := by decide +kernel
theorem dL_law_1683 : decode cL_law 1683 = .ok (.aload_n 1, 1) := by decide +kernel
theorem dL_law_1684 : decode cL_law 1684 = .ok (.invokevirtual 183, 3) := by decide +kernel
theorem dL_law_1687 : decode cL_law 1687 = .ok (.aload_n 2, 1) := by decide +kernel
theorem dL_law_1688 : decode cL_law 1688 = .ok (.invokevirtual 186, 3) := by decide +kernel
theorem dL_law_1691 : decode cL_law 1691 = .ok (.if_icmp .eq 19, 3) := by decide +kernel
theorem dL_law_1694 : decode cL_law 1694 = .ok (.iconst 0, 1) := by decide +kernel
theorem dL_law_1695 : decode cL_law 1695 = .ok (.ireturn, 1) := by decide +kernel
theorem dL_law_1696 : decode cL_law 1696 = .ok (.aload_n 1, 1) := by decide +kernel
theorem dL_law_1697 : decode cL_law 1697 = .ok (.invokevirtual 187, 3) := by decide +kernel
theorem dL_law_1700 : decode cL_law 1700 = .ok (.aload_n 2, 1) := by decide +kernel
theorem dL_law_1701 : decode cL_law 1701 = .ok (.invokevirtual 191, 3) := by decide +kernel
theorem dL_law_1704 : decode cL_law 1704 = .ok (.lcmp, 1) := by decide +kernel
theorem dL_law_1705 : decode cL_law 1705 = .ok (.ifCond .eq 5, 3) := by decide +kernel
theorem dL_law_1708 : decode cL_law 1708 = .ok (.iconst 0, 1) := by decide +kernel
theorem dL_law_1709 : decode cL_law 1709 = .ok (.ireturn, 1) := by decide +kernel
theorem dL_law_1710 : decode cL_law 1710 = .ok (.iinc 4 6, 3) := by decide +kernel
theorem dL_law_1713 : decode cL_law 1713 = .ok (.goto (-1690), 3) := by decide +kernel
theorem dL_law_1716 : decode cL_law 1716 = .ok (.iconst 1, 1) := by decide +kernel
theorem dL_law_1717 : decode cL_law 1717 = .ok (.ireturn, 1) := by decide +kernel
abbrev vwCl : List vw_C := [(RX0, TX0, 5), (RX1, TX1, 9), (RX2, TX2, 3), (RX3, TX3, 9), (RX4, TX4, 2), (RX5, TX5, 16), (RX6, TX6, 2), (RX7, TX7, 7), (RX8, TX8, 16)]
