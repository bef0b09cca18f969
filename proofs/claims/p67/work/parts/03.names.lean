def RX0 : String := "CardLoom$Deck"
def TX0 : u_T := fun k => match k with
  | 0 => ("CardLoom$Deck", "parts", "[I", true)
  | 1 => ("CardLoom$Deck", "partCount", "I", false)
  | 2 => ("CardLoom$Deck", "picks", "[I", true)
  | 3 => ("CardLoom$Deck", "length", "I", false)
  | 4 => ("CardLoom$Deck", "depth", "I", false)
  | 5 => ("CardLoom$Deck", "openCodes", "[I", true)
  | 6 => ("CardLoom$Deck", "openStarts", "[I", true)
  | _ => ("CardLoom$Deck", "openCount", "I", false)
def tyX0 : Nat → FieldType := fun k => match k with
  | 0 => .array .int
  | 1 => .int
  | 2 => .array .int
  | 3 => .int
  | 4 => .int
  | 5 => .array .int
  | 6 => .array .int
  | _ => .int
theorem nmX0 : ∀ a, a < 8 → ∀ b, b < 8 → a ≠ b → (TX0 a).2.1 ≠ (TX0 b).2.1 := by decide +kernel
theorem tyX0_ok : ∀ k, k < 8 → parseFieldDescriptor (TX0 k).2.2.1 = some (tyX0 k) := by decide +kernel
abbrev cX0_init : ByteArray := prog_2_method_1_code
def yX0_init : MethodName := ⟨RX0, "<init>", "()V"⟩
abbrev cX0_clear : ByteArray := prog_2_method_2_code
def yX0_clear : MethodName := ⟨RX0, "clear", "()V"⟩
abbrev cX0_isNestingFull : ByteArray := prog_2_method_4_code
def yX0_isNestingFull : MethodName := ⟨RX0, "isNestingFull", "()Z"⟩
abbrev cX0_addCard : ByteArray := prog_2_method_5_code
def yX0_addCard : MethodName := ⟨RX0, "addCard", "(I)Z"⟩
abbrev cX0_openPart : ByteArray := prog_2_method_6_code
def yX0_openPart : MethodName := ⟨RX0, "openPart", "(I)V"⟩
abbrev cX0_closePart : ByteArray := prog_2_method_7_code
def yX0_closePart : MethodName := ⟨RX0, "closePart", "()Z"⟩
abbrev cX0_startOfList : ByteArray := prog_2_method_8_code
def yX0_startOfList : MethodName := ⟨RX0, "startOfList", "(I)I"⟩
abbrev cX0_picksWhenClosed : ByteArray := prog_2_method_9_code
def yX0_picksWhenClosed : MethodName := ⟨RX0, "picksWhenClosed", "(II)I"⟩
abbrev cX0_mirrorPicks : ByteArray := prog_2_method_10_code
def yX0_mirrorPicks : MethodName := ⟨RX0, "mirrorPicks", "(II)V"⟩
abbrev cX0_reversePicks : ByteArray := prog_2_method_11_code
def yX0_reversePicks : MethodName := ⟨RX0, "reversePicks", "(II)V"⟩
abbrev cX0_repeatPicks : ByteArray := prog_2_method_12_code
def yX0_repeatPicks : MethodName := ⟨RX0, "repeatPicks", "(II)V"⟩
abbrev cX0_addPart : ByteArray := prog_2_method_13_code
def yX0_addPart : MethodName := ⟨RX0, "addPart", "(I)V"⟩
abbrev cX0_cardForRow : ByteArray := prog_2_method_14_code
def yX0_cardForRow : MethodName := ⟨RX0, "cardForRow", "(I)I"⟩
abbrev cX0_countPicks : ByteArray := prog_2_method_15_code
def yX0_countPicks : MethodName := ⟨RX0, "countPicks", "(I)I"⟩
def RX1 : String := "CardLoom$History"
def TX1 : u_T := fun k => match k with
  | 0 => ("CardLoom$History", "states", "[LCardLoom$State;", true)
  | 1 => ("CardLoom$History", "next", "I", false)
  | _ => ("CardLoom$History", "count", "I", false)
def tyX1 : Nat → FieldType := fun k => match k with
  | 0 => .array (.object "CardLoom$State")
  | 1 => .int
  | _ => .int
theorem nmX1 : ∀ a, a < 3 → ∀ b, b < 3 → a ≠ b → (TX1 a).2.1 ≠ (TX1 b).2.1 := by decide +kernel
theorem tyX1_ok : ∀ k, k < 3 → parseFieldDescriptor (TX1 k).2.2.1 = some (tyX1 k) := by decide +kernel
abbrev cX1_init : ByteArray := prog_3_method_1_code
def yX1_init : MethodName := ⟨RX1, "<init>", "()V"⟩
abbrev cX1_forgetAll : ByteArray := prog_3_method_2_code
def yX1_forgetAll : MethodName := ⟨RX1, "forgetAll", "()V"⟩
abbrev cX1_remember : ByteArray := prog_3_method_3_code
def yX1_remember : MethodName := ⟨RX1, "remember", "(LCardLoom$State;)V"⟩
abbrev cX1_stateAt : ByteArray := prog_3_method_5_code
def yX1_stateAt : MethodName := ⟨RX1, "stateAt", "(I)LCardLoom$State;"⟩
def RX2 : String := "CardLoom$Input"
def TX2 : u_T := fun k => match k with
  | 0 => ("CardLoom$Input", "bytes", "[I", true)
  | 1 => ("CardLoom$Input", "size", "I", false)
  | 2 => ("CardLoom$Input", "limit", "I", false)
  | 3 => ("CardLoom$Input", "next", "I", false)
  | 4 => ("CardLoom$Input", "kind", "I", false)
  | 5 => ("CardLoom$Input", "start", "I", false)
  | _ => ("CardLoom$Input", "value", "I", false)
def tyX2 : Nat → FieldType := fun k => match k with
  | 0 => .array .int
  | 1 => .int
  | 2 => .int
  | 3 => .int
  | 4 => .int
  | 5 => .int
  | _ => .int
theorem nmX2 : ∀ a, a < 7 → ∀ b, b < 7 → a ≠ b → (TX2 a).2.1 ≠ (TX2 b).2.1 := by decide +kernel
theorem tyX2_ok : ∀ k, k < 7 → parseFieldDescriptor (TX2 k).2.2.1 = some (tyX2 k) := by decide +kernel
abbrev cX2_init : ByteArray := prog_4_method_1_code
def yX2_init : MethodName := ⟨RX2, "<init>", "()V"⟩
abbrev cX2_addFourBytes : ByteArray := prog_4_method_2_code
def yX2_addFourBytes : MethodName := ⟨RX2, "addFourBytes", "(I)V"⟩
abbrev cX2_startReading : ByteArray := prog_4_method_3_code
def yX2_startReading : MethodName := ⟨RX2, "startReading", "(I)V"⟩
abbrev cX2_advance : ByteArray := prog_4_method_4_code
def yX2_advance : MethodName := ⟨RX2, "advance", "()V"⟩
abbrev cX2_readWord : ByteArray := prog_4_method_5_code
def yX2_readWord : MethodName := ⟨RX2, "readWord", "()V"⟩
abbrev cX2_readNumber : ByteArray := prog_4_method_6_code
def yX2_readNumber : MethodName := ⟨RX2, "readNumber", "()V"⟩
abbrev cX2_isLetter : ByteArray := prog_4_method_7_code
def yX2_isLetter : MethodName := ⟨RX2, "isLetter", "(I)Z"⟩
abbrev cX2_isDigit : ByteArray := prog_4_method_8_code
def yX2_isDigit : MethodName := ⟨RX2, "isDigit", "(I)Z"⟩
abbrev cX2_kindOfSign : ByteArray := prog_4_method_9_code
def yX2_kindOfSign : MethodName := ⟨RX2, "kindOfSign", "(I)I"⟩
abbrev cX2_isWord : ByteArray := prog_4_method_10_code
def yX2_isWord : MethodName := ⟨RX2, "isWord", "(Ljava/lang/String;)Z"⟩
abbrev cX2_colour : ByteArray := prog_4_method_11_code
def yX2_colour : MethodName := ⟨RX2, "colour", "()I"⟩
def RX3 : String := "CardLoom$Loom"
def TX3 : u_T := fun k => match k with
  | 0 => ("CardLoom$Loom", "harnesses", "I", false)
  | 1 => ("CardLoom$Loom", "wearLimit", "I", false)
  | 2 => ("CardLoom$Loom", "strain", "I", false)
  | 3 => ("CardLoom$Loom", "motor", "I", false)
  | 4 => ("CardLoom$Loom", "warps", "I", false)
  | 5 => ("CardLoom$Loom", "harnessOfWarp", "[I", true)
  | 6 => ("CardLoom$Loom", "colourOfWarp", "[I", true)
  | 7 => ("CardLoom$Loom", "cards", "I", false)
  | 8 => ("CardLoom$Loom", "designLifts", "[I", true)
  | 9 => ("CardLoom$Loom", "designColours", "[I", true)
  | 10 => ("CardLoom$Loom", "deck", "LCardLoom$Deck;", true)
  | 11 => ("CardLoom$Loom", "now", "LCardLoom$State;", true)
  | _ => ("CardLoom$Loom", "ahead", "LCardLoom$State;", true)
def tyX3 : Nat → FieldType := fun k => match k with
  | 0 => .int
  | 1 => .int
  | 2 => .int
  | 3 => .int
  | 4 => .int
  | 5 => .array .int
  | 6 => .array .int
  | 7 => .int
  | 8 => .array .int
  | 9 => .array .int
  | 10 => .object "CardLoom$Deck"
  | 11 => .object "CardLoom$State"
  | _ => .object "CardLoom$State"
theorem nmX3 : ∀ a, a < 13 → ∀ b, b < 13 → a ≠ b → (TX3 a).2.1 ≠ (TX3 b).2.1 := by decide +kernel
theorem tyX3_ok : ∀ k, k < 13 → parseFieldDescriptor (TX3 k).2.2.1 = some (tyX3 k) := by decide +kernel
abbrev cX3_init : ByteArray := prog_5_method_1_code
def yX3_init : MethodName := ⟨RX3, "<init>", "()V"⟩
abbrev cX3_clear : ByteArray := prog_5_method_2_code
def yX3_clear : MethodName := ⟨RX3, "clear", "()V"⟩
abbrev cX3_addWarp : ByteArray := prog_5_method_3_code
def yX3_addWarp : MethodName := ⟨RX3, "addWarp", "(II)Z"⟩
abbrev cX3_addCard : ByteArray := prog_5_method_4_code
def yX3_addCard : MethodName := ⟨RX3, "addCard", "(II)V"⟩
abbrev cX3_otherHarnesses : ByteArray := prog_5_method_5_code
def yX3_otherHarnesses : MethodName := ⟨RX3, "otherHarnesses", "(I)I"⟩
abbrev cX3_warpsOfHarnesses : ByteArray := prog_5_method_6_code
def yX3_warpsOfHarnesses : MethodName := ⟨RX3, "warpsOfHarnesses", "(I)I"⟩
abbrev cX3_obstacle : ByteArray := prog_5_method_7_code
def yX3_obstacle : MethodName := ⟨RX3, "obstacle", "(LCardLoom$State;)I"⟩
abbrev cX3_weaveUpTo : ByteArray := prog_5_method_8_code
def yX3_weaveUpTo : MethodName := ⟨RX3, "weaveUpTo", "(LCardLoom$State;I)I"⟩
abbrev cX3_weaveNext : ByteArray := prog_5_method_9_code
def yX3_weaveNext : MethodName := ⟨RX3, "weaveNext", "(LCardLoom$State;)V"⟩
abbrev cX3_moveHarnesses : ByteArray := prog_5_method_10_code
def yX3_moveHarnesses : MethodName := ⟨RX3, "moveHarnesses", "(LCardLoom$State;I)V"⟩
abbrev cX3_breakWarps : ByteArray := prog_5_method_11_code
def yX3_breakWarps : MethodName := ⟨RX3, "breakWarps", "(LCardLoom$State;)V"⟩
abbrev cX3_removeRows : ByteArray := prog_5_method_12_code
def yX3_removeRows : MethodName := ⟨RX3, "removeRows", "(I)V"⟩
abbrev cX3_cellCount : ByteArray := prog_5_method_13_code
def yX3_cellCount : MethodName := ⟨RX3, "cellCount", "()I"⟩
abbrev cX3_colourOfCell : ByteArray := prog_5_method_14_code
def yX3_colourOfCell : MethodName := ⟨RX3, "colourOfCell", "(II)I"⟩
abbrev cX3_countCells : ByteArray := prog_5_method_16_code
def yX3_countCells : MethodName := ⟨RX3, "countCells", "(I)I"⟩
abbrev cX3_leastRowDistance : ByteArray := prog_5_method_19_code
def yX3_leastRowDistance : MethodName := ⟨RX3, "leastRowDistance", "()I"⟩
abbrev cX3_coloursRepeatAfter : ByteArray := prog_5_method_20_code
def yX3_coloursRepeatAfter : MethodName := ⟨RX3, "coloursRepeatAfter", "(I)Z"⟩
abbrev cX3_differsFromDesign : ByteArray := prog_5_method_21_code
def yX3_differsFromDesign : MethodName := ⟨RX3, "differsFromDesign", "(I)Z"⟩
abbrev cX3_equalsDesign : ByteArray := prog_5_method_22_code
def yX3_equalsDesign : MethodName := ⟨RX3, "equalsDesign", "(II)Z"⟩
abbrev cX3_countWrong : ByteArray := prog_5_method_23_code
def yX3_countWrong : MethodName := ⟨RX3, "countWrong", "()I"⟩
abbrev cX3_firstWrong : ByteArray := prog_5_method_24_code
def yX3_firstWrong : MethodName := ⟨RX3, "firstWrong", "()I"⟩
abbrev cX3_suspectedPair : ByteArray := prog_5_method_25_code
def yX3_suspectedPair : MethodName := ⟨RX3, "suspectedPair", "()I"⟩
abbrev cX3_exchangeExplainsCloth : ByteArray := prog_5_method_26_code
def yX3_exchangeExplainsCloth : MethodName := ⟨RX3, "exchangeExplainsCloth", "(II)Z"⟩
def RX4 : String := "CardLoom$Output"
def TX4 : u_T := fun k => match k with
  | 0 => ("CardLoom$Output", "bytes", "[I", true)
  | _ => ("CardLoom$Output", "length", "I", false)
def tyX4 : Nat → FieldType := fun k => match k with
  | 0 => .array .int
  | _ => .int
theorem nmX4 : ∀ a, a < 2 → ∀ b, b < 2 → a ≠ b → (TX4 a).2.1 ≠ (TX4 b).2.1 := by decide +kernel
theorem tyX4_ok : ∀ k, k < 2 → parseFieldDescriptor (TX4 k).2.2.1 = some (tyX4 k) := by decide +kernel
abbrev cX4_init : ByteArray := prog_6_method_1_code
def yX4_init : MethodName := ⟨RX4, "<init>", "()V"⟩
def RX5 : String := "CardLoom$Parser"
def TX5 : u_T := fun k => match k with
  | 0 => ("CardLoom$Parser", "input", "LCardLoom$Input;", true)
  | 1 => ("CardLoom$Parser", "loom", "LCardLoom$Loom;", false)
  | 2 => ("CardLoom$Parser", "errorCode", "I", false)
  | 3 => ("CardLoom$Parser", "errorPosition", "I", false)
  | _ => ("CardLoom$Parser", "number", "I", false)
def tyX5 : Nat → FieldType := fun k => match k with
  | 0 => .object "CardLoom$Input"
  | 1 => .object "CardLoom$Loom"
  | 2 => .int
  | 3 => .int
  | _ => .int
theorem nmX5 : ∀ a, a < 5 → ∀ b, b < 5 → a ≠ b → (TX5 a).2.1 ≠ (TX5 b).2.1 := by decide +kernel
theorem tyX5_ok : ∀ k, k < 5 → parseFieldDescriptor (TX5 k).2.2.1 = some (tyX5 k) := by decide +kernel
abbrev cX5_init : ByteArray := prog_7_method_1_code
def yX5_init : MethodName := ⟨RX5, "<init>", "()V"⟩
abbrev cX5_parse : ByteArray := prog_7_method_2_code
def yX5_parse : MethodName := ⟨RX5, "parse", "(I)Z"⟩
abbrev cX5_fail : ByteArray := prog_7_method_3_code
def yX5_fail : MethodName := ⟨RX5, "fail", "(I)Z"⟩
abbrev cX5_seeNumber : ByteArray := prog_7_method_4_code
def yX5_seeNumber : MethodName := ⟨RX5, "seeNumber", "(II)Z"⟩
abbrev cX5_takeNumber : ByteArray := prog_7_method_5_code
def yX5_takeNumber : MethodName := ⟨RX5, "takeNumber", "(II)Z"⟩
abbrev cX5_seeCard : ByteArray := prog_7_method_6_code
def yX5_seeCard : MethodName := ⟨RX5, "seeCard", "()Z"⟩
abbrev cX5_takeCard : ByteArray := prog_7_method_7_code
def yX5_takeCard : MethodName := ⟨RX5, "takeCard", "()Z"⟩
abbrev cX5_seeHarness : ByteArray := prog_7_method_8_code
def yX5_seeHarness : MethodName := ⟨RX5, "seeHarness", "()Z"⟩
abbrev cX5_takeHarness : ByteArray := prog_7_method_9_code
def yX5_takeHarness : MethodName := ⟨RX5, "takeHarness", "()Z"⟩
abbrev cX5_takeColour : ByteArray := prog_7_method_10_code
def yX5_takeColour : MethodName := ⟨RX5, "takeColour", "()Z"⟩
abbrev cX5_readHeader : ByteArray := prog_7_method_11_code
def yX5_readHeader : MethodName := ⟨RX5, "readHeader", "()Z"⟩
abbrev cX5_readItem : ByteArray := prog_7_method_12_code
def yX5_readItem : MethodName := ⟨RX5, "readItem", "()Z"⟩
abbrev cX5_readWarps : ByteArray := prog_7_method_13_code
def yX5_readWarps : MethodName := ⟨RX5, "readWarps", "()Z"⟩
abbrev cX5_readCard : ByteArray := prog_7_method_14_code
def yX5_readCard : MethodName := ⟨RX5, "readCard", "()Z"⟩
abbrev cX5_readDeck : ByteArray := prog_7_method_15_code
def yX5_readDeck : MethodName := ⟨RX5, "readDeck", "()Z"⟩
abbrev cX5_readCardOfDeck : ByteArray := prog_7_method_16_code
def yX5_readCardOfDeck : MethodName := ⟨RX5, "readCardOfDeck", "()Z"⟩
abbrev cX5_readOpening : ByteArray := prog_7_method_17_code
def yX5_readOpening : MethodName := ⟨RX5, "readOpening", "()Z"⟩
abbrev cX5_readClosing : ByteArray := prog_7_method_18_code
def yX5_readClosing : MethodName := ⟨RX5, "readClosing", "()Z"⟩
abbrev cX5_readYarn : ByteArray := prog_7_method_19_code
def yX5_readYarn : MethodName := ⟨RX5, "readYarn", "()Z"⟩
abbrev cX5_readWeave : ByteArray := prog_7_method_20_code
def yX5_readWeave : MethodName := ⟨RX5, "readWeave", "()Z"⟩
abbrev cX5_readUnweave : ByteArray := prog_7_method_21_code
def yX5_readUnweave : MethodName := ⟨RX5, "readUnweave", "()Z"⟩
abbrev cX5_readSwap : ByteArray := prog_7_method_22_code
def yX5_readSwap : MethodName := ⟨RX5, "readSwap", "()Z"⟩
abbrev cX5_readPunch : ByteArray := prog_7_method_23_code
def yX5_readPunch : MethodName := ⟨RX5, "readPunch", "()Z"⟩
abbrev cX5_readDye : ByteArray := prog_7_method_24_code
def yX5_readDye : MethodName := ⟨RX5, "readDye", "()Z"⟩
abbrev cX5_readOil : ByteArray := prog_7_method_25_code
def yX5_readOil : MethodName := ⟨RX5, "readOil", "()Z"⟩
abbrev cX5_readInvert : ByteArray := prog_7_method_26_code
def yX5_readInvert : MethodName := ⟨RX5, "readInvert", "()Z"⟩
abbrev cX5_readStrain : ByteArray := prog_7_method_27_code
def yX5_readStrain : MethodName := ⟨RX5, "readStrain", "()Z"⟩
abbrev cX5_readMotor : ByteArray := prog_7_method_28_code
def yX5_readMotor : MethodName := ⟨RX5, "readMotor", "()Z"⟩
abbrev cX5_readMend : ByteArray := prog_7_method_29_code
def yX5_readMend : MethodName := ⟨RX5, "readMend", "()Z"⟩
def RX6 : String := "CardLoom$Slot"
def TX6 : u_T := fun k => match k with
  | 0 => ("CardLoom$Slot", "state", "LCardLoom$State;", true)
  | _ => ("CardLoom$Slot", "used", "Z", false)
def tyX6 : Nat → FieldType := fun k => match k with
  | 0 => .object "CardLoom$State"
  | _ => .boolean
theorem nmX6 : ∀ a, a < 2 → ∀ b, b < 2 → a ≠ b → (TX6 a).2.1 ≠ (TX6 b).2.1 := by decide +kernel
theorem tyX6_ok : ∀ k, k < 2 → parseFieldDescriptor (TX6 k).2.2.1 = some (tyX6 k) := by decide +kernel
abbrev cX6_init : ByteArray := prog_8_method_1_code
def yX6_init : MethodName := ⟨RX6, "<init>", "()V"⟩
def RX7 : String := "CardLoom$State"
def TX7 : u_T := fun k => match k with
  | 0 => ("CardLoom$State", "lifted", "I", false)
  | 1 => ("CardLoom$State", "stuck", "I", false)
  | 2 => ("CardLoom$State", "broken", "I", false)
  | 3 => ("CardLoom$State", "rows", "I", false)
  | 4 => ("CardLoom$State", "brought", "I", false)
  | 5 => ("CardLoom$State", "disturbed", "Z", false)
  | 6 => ("CardLoom$State", "wears", "[I", true)
  | 7 => ("CardLoom$State", "yarns", "[I", true)
  | 8 => ("CardLoom$State", "cardLifts", "[I", true)
  | 9 => ("CardLoom$State", "cardColours", "[I", true)
  | 10 => ("CardLoom$State", "rowShown", "[I", true)
  | _ => ("CardLoom$State", "rowWefts", "[I", true)
def tyX7 : Nat → FieldType := fun k => match k with
  | 0 => .int
  | 1 => .int
  | 2 => .int
  | 3 => .int
  | 4 => .int
  | 5 => .boolean
  | 6 => .array .int
  | 7 => .array .int
  | 8 => .array .int
  | 9 => .array .int
  | 10 => .array .int
  | _ => .array .int
theorem nmX7 : ∀ a, a < 12 → ∀ b, b < 12 → a ≠ b → (TX7 a).2.1 ≠ (TX7 b).2.1 := by decide +kernel
theorem tyX7_ok : ∀ k, k < 12 → parseFieldDescriptor (TX7 k).2.2.1 = some (tyX7 k) := by decide +kernel
abbrev cX7_init : ByteArray := prog_9_method_1_code
def yX7_init : MethodName := ⟨RX7, "<init>", "()V"⟩
abbrev cX7_clear : ByteArray := prog_9_method_2_code
def yX7_clear : MethodName := ⟨RX7, "clear", "()V"⟩
abbrev cX7_copyFrom : ByteArray := prog_9_method_3_code
def yX7_copyFrom : MethodName := ⟨RX7, "copyFrom", "(LCardLoom$State;)V"⟩
abbrev cX7_changeLifts : ByteArray := prog_9_method_4_code
def yX7_changeLifts : MethodName := ⟨RX7, "changeLifts", "(II)V"⟩
abbrev cX7_punchCard : ByteArray := prog_9_method_5_code
def yX7_punchCard : MethodName := ⟨RX7, "punchCard", "(II)V"⟩
abbrev cX7_changeColour : ByteArray := prog_9_method_6_code
def yX7_changeColour : MethodName := ⟨RX7, "changeColour", "(II)V"⟩
abbrev cX7_exchangeCards : ByteArray := prog_9_method_7_code
def yX7_exchangeCards : MethodName := ⟨RX7, "exchangeCards", "(II)V"⟩
abbrev cX7_addYarn : ByteArray := prog_9_method_8_code
def yX7_addYarn : MethodName := ⟨RX7, "addYarn", "(II)V"⟩
abbrev cX7_bring : ByteArray := prog_9_method_9_code
def yX7_bring : MethodName := ⟨RX7, "bring", "(II)V"⟩
abbrev cX7_yarnOfAllColours : ByteArray := prog_9_method_10_code
def yX7_yarnOfAllColours : MethodName := ⟨RX7, "yarnOfAllColours", "()I"⟩
abbrev cX7_oilHarness : ByteArray := prog_9_method_11_code
def yX7_oilHarness : MethodName := ⟨RX7, "oilHarness", "(I)V"⟩
abbrev cX7_mendWarp : ByteArray := prog_9_method_12_code
def yX7_mendWarp : MethodName := ⟨RX7, "mendWarp", "(I)V"⟩
abbrev cX7_addRow : ByteArray := prog_9_method_13_code
def yX7_addRow : MethodName := ⟨RX7, "addRow", "(II)V"⟩
def RX8 : String := "CardLoom"
def TX8 : u_T := fun k => match k with
  | 0 => ("CardLoom", "parser", "LCardLoom$Parser;", true)
  | 1 => ("CardLoom", "output", "LCardLoom$Output;", true)
  | 2 => ("CardLoom", "history", "LCardLoom$History;", true)
  | 3 => ("CardLoom", "firstSlot", "LCardLoom$Slot;", true)
  | 4 => ("CardLoom", "secondSlot", "LCardLoom$Slot;", true)
  | 5 => ("CardLoom", "loom", "LCardLoom$Loom;", false)
  | _ => ("CardLoom", "loaded", "Z", false)
def tyX8 : Nat → FieldType := fun k => match k with
  | 0 => .object "CardLoom$Parser"
  | 1 => .object "CardLoom$Output"
  | 2 => .object "CardLoom$History"
  | 3 => .object "CardLoom$Slot"
  | 4 => .object "CardLoom$Slot"
  | 5 => .object "CardLoom$Loom"
  | _ => .boolean
theorem nmX8 : ∀ a, a < 7 → ∀ b, b < 7 → a ≠ b → (TX8 a).2.1 ≠ (TX8 b).2.1 := by decide +kernel
theorem tyX8_ok : ∀ k, k < 7 → parseFieldDescriptor (TX8 k).2.2.1 = some (tyX8 k) := by decide +kernel
abbrev cX8_init : ByteArray := prog_1_method_1_code
def yX8_init : MethodName := ⟨RX8, "<init>", "()V"⟩
abbrev cX8_append : ByteArray := prog_1_method_2_code
def yX8_append : MethodName := ⟨RX8, "append", "(IIIII)I"⟩
abbrev cX8_parseSetup : ByteArray := prog_1_method_3_code
def yX8_parseSetup : MethodName := ⟨RX8, "parseSetup", "(I)I"⟩
abbrev cX8_harnessCount : ByteArray := prog_1_method_7_code
def yX8_harnessCount : MethodName := ⟨RX8, "harnessCount", "()I"⟩
abbrev cX8_warpCount : ByteArray := prog_1_method_8_code
def yX8_warpCount : MethodName := ⟨RX8, "warpCount", "()I"⟩
abbrev cX8_brokenCount : ByteArray := prog_1_method_13_code
def yX8_brokenCount : MethodName := ⟨RX8, "brokenCount", "()I"⟩
abbrev cX8_isLifted : ByteArray := prog_1_method_14_code
def yX8_isLifted : MethodName := ⟨RX8, "isLifted", "(I)Z"⟩
abbrev cX8_wear : ByteArray := prog_1_method_15_code
def yX8_wear : MethodName := ⟨RX8, "wear", "(I)I"⟩
abbrev cX8_isStuck : ByteArray := prog_1_method_16_code
def yX8_isStuck : MethodName := ⟨RX8, "isStuck", "(I)Z"⟩
abbrev cX8_cardCount : ByteArray := prog_1_method_17_code
def yX8_cardCount : MethodName := ⟨RX8, "cardCount", "()I"⟩
abbrev cX8_lifts : ByteArray := prog_1_method_18_code
def yX8_lifts : MethodName := ⟨RX8, "lifts", "(II)Z"⟩
abbrev cX8_cardColour : ByteArray := prog_1_method_19_code
def yX8_cardColour : MethodName := ⟨RX8, "cardColour", "(I)I"⟩
abbrev cX8_liftedWarps : ByteArray := prog_1_method_20_code
def yX8_liftedWarps : MethodName := ⟨RX8, "liftedWarps", "(I)I"⟩
abbrev cX8_cardUses : ByteArray := prog_1_method_25_code
def yX8_cardUses : MethodName := ⟨RX8, "cardUses", "(I)I"⟩
abbrev cX8_rowCount : ByteArray := prog_1_method_29_code
def yX8_rowCount : MethodName := ⟨RX8, "rowCount", "()I"⟩
abbrev cX8_cellColour : ByteArray := prog_1_method_30_code
def yX8_cellColour : MethodName := ⟨RX8, "cellColour", "(II)I"⟩
abbrev cX8_showsWarp : ByteArray := prog_1_method_31_code
def yX8_showsWarp : MethodName := ⟨RX8, "showsWarp", "(II)Z"⟩
abbrev cX8_cellsOfColour : ByteArray := prog_1_method_34_code
def yX8_cellsOfColour : MethodName := ⟨RX8, "cellsOfColour", "(I)I"⟩
abbrev cX8_rowPeriod : ByteArray := prog_1_method_35_code
def yX8_rowPeriod : MethodName := ⟨RX8, "rowPeriod", "()I"⟩
abbrev cX8_wrongCount : ByteArray := prog_1_method_39_code
def yX8_wrongCount : MethodName := ⟨RX8, "wrongCount", "()I"⟩
abbrev cX8_firstWrongRow : ByteArray := prog_1_method_40_code
def yX8_firstWrongRow : MethodName := ⟨RX8, "firstWrongRow", "()I"⟩
abbrev cX8_swapFirst : ByteArray := prog_1_method_41_code
def yX8_swapFirst : MethodName := ⟨RX8, "swapFirst", "()I"⟩
abbrev cX8_swapSecond : ByteArray := prog_1_method_42_code
def yX8_swapSecond : MethodName := ⟨RX8, "swapSecond", "()I"⟩
abbrev cX8_yarn : ByteArray := prog_1_method_43_code
def yX8_yarn : MethodName := ⟨RX8, "yarn", "(I)I"⟩
abbrev cX8_nextCard : ByteArray := prog_1_method_45_code
def yX8_nextCard : MethodName := ⟨RX8, "nextCard", "()I"⟩
abbrev cX8_weaveObstacle : ByteArray := prog_1_method_46_code
def yX8_weaveObstacle : MethodName := ⟨RX8, "weaveObstacle", "()I"⟩
abbrev cX8_picksPossible : ByteArray := prog_1_method_47_code
def yX8_picksPossible : MethodName := ⟨RX8, "picksPossible", "()I"⟩
abbrev cX8_picksUntilStuck : ByteArray := prog_1_method_48_code
def yX8_picksUntilStuck : MethodName := ⟨RX8, "picksUntilStuck", "()I"⟩
abbrev cX8_imbalance : ByteArray := prog_1_method_49_code
def yX8_imbalance : MethodName := ⟨RX8, "imbalance", "()I"⟩
abbrev cX8_weave : ByteArray := prog_1_method_54_code
def yX8_weave : MethodName := ⟨RX8, "weave", "(I)I"⟩
abbrev cX8_unweave : ByteArray := prog_1_method_55_code
def yX8_unweave : MethodName := ⟨RX8, "unweave", "(I)I"⟩
abbrev cX8_swapCards : ByteArray := prog_1_method_56_code
def yX8_swapCards : MethodName := ⟨RX8, "swapCards", "(II)I"⟩
abbrev cX8_punch : ByteArray := prog_1_method_57_code
def yX8_punch : MethodName := ⟨RX8, "punch", "(II)Z"⟩
abbrev cX8_setCardColour : ByteArray := prog_1_method_58_code
def yX8_setCardColour : MethodName := ⟨RX8, "setCardColour", "(II)I"⟩
abbrev cX8_bringYarn : ByteArray := prog_1_method_59_code
def yX8_bringYarn : MethodName := ⟨RX8, "bringYarn", "(II)I"⟩
abbrev cX8_oil : ByteArray := prog_1_method_60_code
def yX8_oil : MethodName := ⟨RX8, "oil", "(I)I"⟩
abbrev cX8_undoCount : ByteArray := prog_1_method_63_code
def yX8_undoCount : MethodName := ⟨RX8, "undoCount", "()I"⟩
abbrev cX8_saveState : ByteArray := prog_1_method_64_code
def yX8_saveState : MethodName := ⟨RX8, "saveState", "(I)I"⟩
abbrev cX8_restoreState : ByteArray := prog_1_method_65_code
def yX8_restoreState : MethodName := ⟨RX8, "restoreState", "(I)I"⟩
abbrev cX8_requireLoaded : ByteArray := prog_1_method_66_code
def yX8_requireLoaded : MethodName := ⟨RX8, "requireLoaded", "()V"⟩
abbrev cX8_requireWarp : ByteArray := prog_1_method_67_code
def yX8_requireWarp : MethodName := ⟨RX8, "requireWarp", "(I)V"⟩
abbrev cX8_requireHarness : ByteArray := prog_1_method_68_code
def yX8_requireHarness : MethodName := ⟨RX8, "requireHarness", "(I)V"⟩
abbrev cX8_requireCard : ByteArray := prog_1_method_69_code
def yX8_requireCard : MethodName := ⟨RX8, "requireCard", "(I)V"⟩
abbrev cX8_requireRow : ByteArray := prog_1_method_70_code
def yX8_requireRow : MethodName := ⟨RX8, "requireRow", "(I)V"⟩
abbrev cX8_requireColour : ByteArray := prog_1_method_71_code
def yX8_requireColour : MethodName := ⟨RX8, "requireColour", "(I)V"⟩
abbrev cX8_requireIndex : ByteArray := prog_1_method_72_code
def yX8_requireIndex : MethodName := ⟨RX8, "requireIndex", "(II)V"⟩
abbrev cX8_requireRange : ByteArray := prog_1_method_73_code
def yX8_requireRange : MethodName := ⟨RX8, "requireRange", "(III)V"⟩
abbrev cX8_at : ByteArray := prog_1_method_74_code
def yX8_at : MethodName := ⟨RX8, "at", "([II)I"⟩
abbrev cX8_put : ByteArray := prog_1_method_75_code
def yX8_put : MethodName := ⟨RX8, "put", "([III)V"⟩
abbrev cX8_copy : ByteArray := prog_1_method_76_code
def yX8_copy : MethodName := ⟨RX8, "copy", "([I[I)V"⟩
abbrev cX8_has : ByteArray := prog_1_method_77_code
def yX8_has : MethodName := ⟨RX8, "has", "(II)Z"⟩
def RX9 : String := "CardLoomLaw$Loom"
def TX9 : u_T := fun k => match k with
  | 0 => ("CardLoomLaw$Loom", "harnesses", "I", false)
  | 1 => ("CardLoomLaw$Loom", "limit", "I", false)
  | 2 => ("CardLoomLaw$Loom", "strain", "I", false)
  | 3 => ("CardLoomLaw$Loom", "motor", "I", false)
  | 4 => ("CardLoomLaw$Loom", "lifted", "[Z", false)
  | 5 => ("CardLoomLaw$Loom", "stuck", "[Z", false)
  | 6 => ("CardLoomLaw$Loom", "broken", "[Z", false)
  | 7 => ("CardLoomLaw$Loom", "wear", "[I", false)
  | 8 => ("CardLoomLaw$Loom", "on", "[I", false)
  | 9 => ("CardLoomLaw$Loom", "colours", "[I", false)
  | 10 => ("CardLoomLaw$Loom", "yarn", "[I", false)
  | 11 => ("CardLoomLaw$Loom", "cards", "[[I", false)
  | 12 => ("CardLoomLaw$Loom", "picks", "[I", false)
  | 13 => ("CardLoomLaw$Loom", "rows", "Ljava/util/ArrayList;", true)
  | _ => ("CardLoomLaw$Loom", "wefts", "Ljava/util/ArrayList;", true)
def tyX9 : Nat → FieldType := fun k => match k with
  | 0 => .int
  | 1 => .int
  | 2 => .int
  | 3 => .int
  | 4 => .array .boolean
  | 5 => .array .boolean
  | 6 => .array .boolean
  | 7 => .array .int
  | 8 => .array .int
  | 9 => .array .int
  | 10 => .array .int
  | 11 => .array (.array .int)
  | 12 => .array .int
  | 13 => .object "java/util/ArrayList"
  | _ => .object "java/util/ArrayList"
theorem nmX9 : ∀ a, a < 15 → ∀ b, b < 15 → a ≠ b → (TX9 a).2.1 ≠ (TX9 b).2.1 := by decide +kernel
theorem tyX9_ok : ∀ k, k < 15 → parseFieldDescriptor (TX9 k).2.2.1 = some (tyX9 k) := by decide +kernel
abbrev cX9_init : ByteArray := prog_11_method_1_code
def yX9_init : MethodName := ⟨RX9, "<init>", "()V"⟩
abbrev cX9_copy : ByteArray := prog_11_method_2_code
def yX9_copy : MethodName := ⟨RX9, "copy", "()LCardLoomLaw$Loom;"⟩
abbrev cX9_next : ByteArray := prog_11_method_3_code
def yX9_next : MethodName := ⟨RX9, "next", "()I"⟩
abbrev cX9_up : ByteArray := prog_11_method_4_code
def yX9_up : MethodName := ⟨RX9, "up", "(I)I"⟩
abbrev cX9_why : ByteArray := prog_11_method_5_code
def yX9_why : MethodName := ⟨RX9, "why", "()I"⟩
abbrev cX9_tight : ByteArray := prog_11_method_6_code
def yX9_tight : MethodName := ⟨RX9, "tight", "(I)Z"⟩
abbrev cX9_weave : ByteArray := prog_11_method_7_code
def yX9_weave : MethodName := ⟨RX9, "weave", "()V"⟩
abbrev cX9_weaves : ByteArray := prog_11_method_8_code
def yX9_weaves : MethodName := ⟨RX9, "weaves", "(I)I"⟩
abbrev cX9_unweave : ByteArray := prog_11_method_9_code
def yX9_unweave : MethodName := ⟨RX9, "unweave", "(I)V"⟩
def RX10 : String := "CardLoomModel"
def TX10 : u_T := fun k => match k with
  | _ => ("", "", "", false)
def tyX10 : Nat → FieldType := fun k => match k with
  | _ => .int
theorem nmX10 : ∀ a, a < 0 → ∀ b, b < 0 → a ≠ b → (TX10 a).2.1 ≠ (TX10 b).2.1 := by decide +kernel
theorem tyX10_ok : ∀ k, k < 0 → parseFieldDescriptor (TX10 k).2.2.1 = some (tyX10 k) := by decide +kernel
def RJx145de : String := "java/io/Serializable"
def TJx145de : u_T := fun k => match k with
  | _ => ("", "", "", false)
def tyJx145de : Nat → FieldType := fun k => match k with
  | _ => .int
theorem nmJx145de : ∀ a, a < 0 → ∀ b, b < 0 → a ≠ b → (TJx145de a).2.1 ≠ (TJx145de b).2.1 := by decide +kernel
theorem tyJx145de_ok : ∀ k, k < 0 → parseFieldDescriptor (TJx145de k).2.2.1 = some (tyJx145de k) := by decide +kernel
def RJ5 : String := "java/lang/AbstractStringBuilder"
def TJ5 : u_T := fun k => match k with
  | _ => ("", "", "", false)
def tyJ5 : Nat → FieldType := fun k => match k with
  | _ => .int
theorem nmJ5 : ∀ a, a < 0 → ∀ b, b < 0 → a ≠ b → (TJ5 a).2.1 ≠ (TJ5 b).2.1 := by decide +kernel
theorem tyJ5_ok : ∀ k, k < 0 → parseFieldDescriptor (TJ5 k).2.2.1 = some (tyJ5 k) := by decide +kernel
abbrev cJ5_init_a7421 : ByteArray := prog_14_method_3_code
def yJ5_init_a7421 : MethodName := ⟨RJ5, "<init>", "(Ljava/lang/String;)V"⟩
abbrev cJ5_length_8abf5 : ByteArray := prog_14_method_6_code
def yJ5_length_8abf5 : MethodName := ⟨RJ5, "length", "()I"⟩
abbrev cJ5_ensureCapacityInternal_d00df : ByteArray := prog_14_method_9_code
def yJ5_ensureCapacityInternal_d00df : MethodName := ⟨RJ5, "ensureCapacityInternal", "(I)V"⟩
abbrev cJ5_newCapacity_0f7a4 : ByteArray := prog_14_method_10_code
def yJ5_newCapacity_0f7a4 : MethodName := ⟨RJ5, "newCapacity", "(I)I"⟩
abbrev cJ5_inflate_da8c8 : ByteArray := prog_14_method_11_code
def yJ5_inflate_da8c8 : MethodName := ⟨RJ5, "inflate", "()V"⟩
abbrev cJ5_charAt_5068e : ByteArray := prog_14_method_14_code
def yJ5_charAt_5068e : MethodName := ⟨RJ5, "charAt", "(I)C"⟩
abbrev cJ5_append_cf1ce : ByteArray := prog_14_method_22_code
def yJ5_append_cf1ce : MethodName := ⟨RJ5, "append", "(Ljava/lang/String;)Ljava/lang/AbstractStringBuilder;"⟩
abbrev cJ5_appendNull_278bc : ByteArray := prog_14_method_26_code
def yJ5_appendNull_278bc : MethodName := ⟨RJ5, "appendNull", "()Ljava/lang/AbstractStringBuilder;"⟩
abbrev cJ5_append_3fe6f : ByteArray := prog_14_method_31_code
def yJ5_append_3fe6f : MethodName := ⟨RJ5, "append", "(C)Ljava/lang/AbstractStringBuilder;"⟩
abbrev cJ5_append_c97b9 : ByteArray := prog_14_method_32_code
def yJ5_append_c97b9 : MethodName := ⟨RJ5, "append", "(I)Ljava/lang/AbstractStringBuilder;"⟩
abbrev cJ5_getValue_6d5f1 : ByteArray := prog_14_method_64_code
def yJ5_getValue_6d5f1 : MethodName := ⟨RJ5, "getValue", "()[B"⟩
abbrev cJ5_isLatin1_aae02 : ByteArray := prog_14_method_68_code
def yJ5_isLatin1_aae02 : MethodName := ⟨RJ5, "isLatin1", "()Z"⟩
abbrev cJ5_inflateIfNeededFor_a7421 : ByteArray := prog_14_method_71_code
def yJ5_inflateIfNeededFor_a7421 : MethodName := ⟨RJ5, "inflateIfNeededFor", "(Ljava/lang/String;)V"⟩
abbrev cJ5_putStringAt_47b60 : ByteArray := prog_14_method_73_code
def yJ5_putStringAt_47b60 : MethodName := ⟨RJ5, "putStringAt", "(ILjava/lang/String;)V"⟩
def RJx2cfe8 : String := "java/lang/Appendable"
def TJx2cfe8 : u_T := fun k => match k with
  | _ => ("", "", "", false)
def tyJx2cfe8 : Nat → FieldType := fun k => match k with
  | _ => .int
theorem nmJx2cfe8 : ∀ a, a < 0 → ∀ b, b < 0 → a ≠ b → (TJx2cfe8 a).2.1 ≠ (TJx2cfe8 b).2.1 := by decide +kernel
theorem tyJx2cfe8_ok : ∀ k, k < 0 → parseFieldDescriptor (TJx2cfe8 k).2.2.1 = some (tyJx2cfe8 k) := by decide +kernel
def RJx9f9b0 : String := "java/lang/CharSequence"
def TJx9f9b0 : u_T := fun k => match k with
  | _ => ("", "", "", false)
def tyJx9f9b0 : Nat → FieldType := fun k => match k with
  | _ => .int
theorem nmJx9f9b0 : ∀ a, a < 0 → ∀ b, b < 0 → a ≠ b → (TJx9f9b0 a).2.1 ≠ (TJx9f9b0 b).2.1 := by decide +kernel
theorem tyJx9f9b0_ok : ∀ k, k < 0 → parseFieldDescriptor (TJx9f9b0 k).2.2.1 = some (tyJx9f9b0 k) := by decide +kernel
def RJx8e188 : String := "java/lang/Cloneable"
def TJx8e188 : u_T := fun k => match k with
  | _ => ("", "", "", false)
def tyJx8e188 : Nat → FieldType := fun k => match k with
  | _ => .int
theorem nmJx8e188 : ∀ a, a < 0 → ∀ b, b < 0 → a ≠ b → (TJx8e188 a).2.1 ≠ (TJx8e188 b).2.1 := by decide +kernel
theorem tyJx8e188_ok : ∀ k, k < 0 → parseFieldDescriptor (TJx8e188 k).2.2.1 = some (tyJx8e188 k) := by decide +kernel
def RJxb160c : String := "java/lang/Comparable"
def TJxb160c : u_T := fun k => match k with
  | _ => ("", "", "", false)
def tyJxb160c : Nat → FieldType := fun k => match k with
  | _ => .int
theorem nmJxb160c : ∀ a, a < 0 → ∀ b, b < 0 → a ≠ b → (TJxb160c a).2.1 ≠ (TJxb160c b).2.1 := by decide +kernel
theorem tyJxb160c_ok : ∀ k, k < 0 → parseFieldDescriptor (TJxb160c k).2.2.1 = some (tyJxb160c k) := by decide +kernel
def RJxabbfe : String := "java/lang/Integer$IntegerCache"
def TJxabbfe : u_T := fun k => match k with
  | _ => ("", "", "", false)
def tyJxabbfe : Nat → FieldType := fun k => match k with
  | _ => .int
theorem nmJxabbfe : ∀ a, a < 0 → ∀ b, b < 0 → a ≠ b → (TJxabbfe a).2.1 ≠ (TJxabbfe b).2.1 := by decide +kernel
theorem tyJxabbfe_ok : ∀ k, k < 0 → parseFieldDescriptor (TJxabbfe k).2.2.1 = some (tyJxabbfe k) := by decide +kernel
def RJ6 : String := "java/lang/Integer"
def TJ6 : u_T := fun k => match k with
  | _ => ("java/lang/Integer", "value", "I", true)
def tyJ6 : Nat → FieldType := fun k => match k with
  | _ => .int
theorem nmJ6 : ∀ a, a < 1 → ∀ b, b < 1 → a ≠ b → (TJ6 a).2.1 ≠ (TJ6 b).2.1 := by decide +kernel
theorem tyJ6_ok : ∀ k, k < 1 → parseFieldDescriptor (TJ6 k).2.2.1 = some (tyJ6 k) := by decide +kernel
abbrev cJ6_getChars_ba4f3 : ByteArray := prog_23_method_12_code
def yJ6_getChars_ba4f3 : MethodName := ⟨RJ6, "getChars", "(II[B)I"⟩
abbrev cJ6_stringSize_0f7a4 : ByteArray := prog_23_method_13_code
def yJ6_stringSize_0f7a4 : MethodName := ⟨RJ6, "stringSize", "(I)I"⟩
abbrev cJ6_valueOf_2dffe : ByteArray := prog_23_method_22_code
def yJ6_valueOf_2dffe : MethodName := ⟨RJ6, "valueOf", "(I)Ljava/lang/Integer;"⟩
abbrev cJ6_init_d00df : ByteArray := prog_23_method_23_code
def yJ6_init_d00df : MethodName := ⟨RJ6, "<init>", "(I)V"⟩
abbrev cJ6_intValue_8abf5 : ByteArray := prog_23_method_27_code
def yJ6_intValue_8abf5 : MethodName := ⟨RJ6, "intValue", "()I"⟩
abbrev cJ6_numberOfLeadingZeros_0f7a4 : ByteArray := prog_23_method_47_code
def yJ6_numberOfLeadingZeros_0f7a4 : MethodName := ⟨RJ6, "numberOfLeadingZeros", "(I)I"⟩
abbrev cJ6_numberOfTrailingZeros_0f7a4 : ByteArray := prog_23_method_48_code
def yJ6_numberOfTrailingZeros_0f7a4 : MethodName := ⟨RJ6, "numberOfTrailingZeros", "(I)I"⟩
abbrev cJ6_bitCount_0f7a4 : ByteArray := prog_23_method_49_code
def yJ6_bitCount_0f7a4 : MethodName := ⟨RJ6, "bitCount", "(I)I"⟩
def RJxab1ab : String := "java/lang/Iterable"
def TJxab1ab : u_T := fun k => match k with
  | _ => ("", "", "", false)
def tyJxab1ab : Nat → FieldType := fun k => match k with
  | _ => .int
theorem nmJxab1ab : ∀ a, a < 0 → ∀ b, b < 0 → a ≠ b → (TJxab1ab a).2.1 ≠ (TJxab1ab b).2.1 := by decide +kernel
theorem tyJxab1ab_ok : ∀ k, k < 0 → parseFieldDescriptor (TJxab1ab k).2.2.1 = some (tyJxab1ab k) := by decide +kernel
def RJ13 : String := "java/lang/Long"
def TJ13 : u_T := fun k => match k with
  | _ => ("", "", "", false)
def tyJ13 : Nat → FieldType := fun k => match k with
  | _ => .int
theorem nmJ13 : ∀ a, a < 0 → ∀ b, b < 0 → a ≠ b → (TJ13 a).2.1 ≠ (TJ13 b).2.1 := by decide +kernel
theorem tyJ13_ok : ∀ k, k < 0 → parseFieldDescriptor (TJ13 k).2.2.1 = some (tyJ13 k) := by decide +kernel
abbrev cJ13_numberOfLeadingZeros_95d88 : ByteArray := prog_26_method_48_code
def yJ13_numberOfLeadingZeros_95d88 : MethodName := ⟨RJ13, "numberOfLeadingZeros", "(J)I"⟩
abbrev cJ13_numberOfTrailingZeros_95d88 : ByteArray := prog_26_method_49_code
def yJ13_numberOfTrailingZeros_95d88 : MethodName := ⟨RJ13, "numberOfTrailingZeros", "(J)I"⟩
def RJ9 : String := "java/lang/Math"
def TJ9 : u_T := fun k => match k with
  | _ => ("", "", "", false)
def tyJ9 : Nat → FieldType := fun k => match k with
  | _ => .int
theorem nmJ9 : ∀ a, a < 0 → ∀ b, b < 0 → a ≠ b → (TJ9 a).2.1 ≠ (TJ9 b).2.1 := by decide +kernel
theorem tyJ9_ok : ∀ k, k < 0 → parseFieldDescriptor (TJ9 k).2.2.1 = some (tyJ9 k) := by decide +kernel
abbrev cJ9_abs_0f7a4 : ByteArray := prog_27_method_59_code
def yJ9_abs_0f7a4 : MethodName := ⟨RJ9, "abs", "(I)I"⟩
abbrev cJ9_max_7cf53 : ByteArray := prog_27_method_65_code
def yJ9_max_7cf53 : MethodName := ⟨RJ9, "max", "(II)I"⟩
abbrev cJ9_min_7cf53 : ByteArray := prog_27_method_69_code
def yJ9_min_7cf53 : MethodName := ⟨RJ9, "min", "(II)I"⟩
def RJxd2413 : String := "java/lang/Number"
def TJxd2413 : u_T := fun k => match k with
  | _ => ("", "", "", false)
def tyJxd2413 : Nat → FieldType := fun k => match k with
  | _ => .int
theorem nmJxd2413 : ∀ a, a < 0 → ∀ b, b < 0 → a ≠ b → (TJxd2413 a).2.1 ≠ (TJxd2413 b).2.1 := by decide +kernel
theorem tyJxd2413_ok : ∀ k, k < 0 → parseFieldDescriptor (TJxd2413 k).2.2.1 = some (tyJxd2413 k) := by decide +kernel
abbrev cJxd2413_init_da8c8 : ByteArray := prog_28_method_1_code
def yJxd2413_init_da8c8 : MethodName := ⟨RJxd2413, "<init>", "()V"⟩
def RJ0 : String := "java/lang/String"
def TJ0 : u_T := fun k => match k with
  | 0 => ("java/lang/String", "value", "[B", true)
  | 1 => ("java/lang/String", "coder", "B", true)
  | 2 => ("java/lang/String", "hash", "I", false)
  | _ => ("java/lang/String", "hashIsZero", "Z", false)
def tyJ0 : Nat → FieldType := fun k => match k with
  | 0 => .array .byte
  | 1 => .byte
  | 2 => .int
  | _ => .boolean
theorem nmJ0 : ∀ a, a < 4 → ∀ b, b < 4 → a ≠ b → (TJ0 a).2.1 ≠ (TJ0 b).2.1 := by decide +kernel
theorem tyJ0_ok : ∀ k, k < 4 → parseFieldDescriptor (TJ0 k).2.2.1 = some (tyJ0 k) := by decide +kernel
abbrev cJ0_init_81219 : ByteArray := prog_30_method_53_code
def yJ0_init_81219 : MethodName := ⟨RJ0, "<init>", "(Ljava/lang/StringBuilder;)V"⟩
abbrev cJ0_length_8abf5 : ByteArray := prog_30_method_54_code
def yJ0_length_8abf5 : MethodName := ⟨RJ0, "length", "()I"⟩
abbrev cJ0_charAt_5068e : ByteArray := prog_30_method_56_code
def yJ0_charAt_5068e : MethodName := ⟨RJ0, "charAt", "(I)C"⟩
abbrev cJ0_getBytes_840e7 : ByteArray := prog_30_method_147_code
def yJ0_getBytes_840e7 : MethodName := ⟨RJ0, "getBytes", "([BIB)V"⟩
abbrev cJ0_init_db425 : ByteArray := prog_30_method_150_code
def yJ0_init_db425 : MethodName := ⟨RJ0, "<init>", "(Ljava/lang/AbstractStringBuilder;Ljava/lang/Void;)V"⟩
abbrev cJ0_coder_7d493 : ByteArray := prog_30_method_152_code
def yJ0_coder_7d493 : MethodName := ⟨RJ0, "coder", "()B"⟩
abbrev cJ0_isLatin1_aae02 : ByteArray := prog_30_method_154_code
def yJ0_isLatin1_aae02 : MethodName := ⟨RJ0, "isLatin1", "()Z"⟩
abbrev cJ0_checkIndex_df160 : ByteArray := prog_30_method_155_code
def yJ0_checkIndex_df160 : MethodName := ⟨RJ0, "checkIndex", "(II)V"⟩
abbrev cJ0_checkBoundsOffCount_cabcc : ByteArray := prog_30_method_157_code
def yJ0_checkBoundsOffCount_cabcc : MethodName := ⟨RJ0, "checkBoundsOffCount", "(III)I"⟩
abbrev cJ0_checkBoundsBeginEnd_23922 : ByteArray := prog_30_method_158_code
def yJ0_checkBoundsBeginEnd_23922 : MethodName := ⟨RJ0, "checkBoundsBeginEnd", "(III)V"⟩
def RJ4 : String := "java/lang/StringBuilder"
def TJ4 : u_T := fun k => match k with
  | 0 => ("java/lang/AbstractStringBuilder", "value", "[B", false)
  | 1 => ("java/lang/AbstractStringBuilder", "coder", "B", false)
  | 2 => ("java/lang/AbstractStringBuilder", "maybeLatin1", "Z", false)
  | _ => ("java/lang/AbstractStringBuilder", "count", "I", false)
def tyJ4 : Nat → FieldType := fun k => match k with
  | 0 => .array .byte
  | 1 => .byte
  | 2 => .boolean
  | _ => .int
theorem nmJ4 : ∀ a, a < 4 → ∀ b, b < 4 → a ≠ b → (TJ4 a).2.1 ≠ (TJ4 b).2.1 := by decide +kernel
theorem tyJ4_ok : ∀ k, k < 4 → parseFieldDescriptor (TJ4 k).2.2.1 = some (tyJ4 k) := by decide +kernel
abbrev cJ4_init_a7421 : ByteArray := prog_31_method_3_code
def yJ4_init_a7421 : MethodName := ⟨RJ4, "<init>", "(Ljava/lang/String;)V"⟩
abbrev cJ4_append_15ec4 : ByteArray := prog_31_method_7_code
def yJ4_append_15ec4 : MethodName := ⟨RJ4, "append", "(Ljava/lang/String;)Ljava/lang/StringBuilder;"⟩
abbrev cJ4_append_cf468 : ByteArray := prog_31_method_14_code
def yJ4_append_cf468 : MethodName := ⟨RJ4, "append", "(C)Ljava/lang/StringBuilder;"⟩
abbrev cJ4_append_bf812 : ByteArray := prog_31_method_15_code
def yJ4_append_bf812 : MethodName := ⟨RJ4, "append", "(I)Ljava/lang/StringBuilder;"⟩
abbrev cJ4_toString_0e30d : ByteArray := prog_31_method_42_code
def yJ4_toString_0e30d : MethodName := ⟨RJ4, "toString", "()Ljava/lang/String;"⟩
abbrev cJ4_append_cf1ce : ByteArray := prog_31_method_80_code
def yJ4_append_cf1ce : MethodName := ⟨RJ4, "append", "(Ljava/lang/String;)Ljava/lang/AbstractStringBuilder;"⟩
abbrev cJ4_charAt_5068e : ByteArray := prog_31_method_88_code
def yJ4_charAt_5068e : MethodName := ⟨RJ4, "charAt", "(I)C"⟩
abbrev cJ4_length_8abf5 : ByteArray := prog_31_method_93_code
def yJ4_length_8abf5 : MethodName := ⟨RJ4, "length", "()I"⟩
def RJ1 : String := "java/lang/StringLatin1"
def TJ1 : u_T := fun k => match k with
  | _ => ("", "", "", false)
def tyJ1 : Nat → FieldType := fun k => match k with
  | _ => .int
theorem nmJ1 : ∀ a, a < 0 → ∀ b, b < 0 → a ≠ b → (TJ1 a).2.1 ≠ (TJ1 b).2.1 := by decide +kernel
theorem tyJ1_ok : ∀ k, k < 0 → parseFieldDescriptor (TJ1 k).2.2.1 = some (tyJ1 k) := by decide +kernel
abbrev cJ1_charAt_3b067 : ByteArray := prog_32_method_2_code
def yJ1_charAt_3b067 : MethodName := ⟨RJ1, "charAt", "([BI)C"⟩
abbrev cJ1_canEncode_fc78d : ByteArray := prog_32_method_3_code
def yJ1_canEncode_fc78d : MethodName := ⟨RJ1, "canEncode", "(C)Z"⟩
abbrev cJ1_inflate_0e8fd : ByteArray := prog_32_method_50_code
def yJ1_inflate_0e8fd : MethodName := ⟨RJ1, "inflate", "([BI[BII)V"⟩
def RJ2 : String := "java/lang/StringUTF16"
def TJ2 : u_T := fun k => match k with
  | _ => ("", "", "", false)
def tyJ2 : Nat → FieldType := fun k => match k with
  | _ => .int
theorem nmJ2 : ∀ a, a < 0 → ∀ b, b < 0 → a ≠ b → (TJ2 a).2.1 ≠ (TJ2 b).2.1 := by decide +kernel
theorem tyJ2_ok : ∀ k, k < 0 → parseFieldDescriptor (TJ2 k).2.2.1 = some (tyJ2 k) := by decide +kernel
abbrev cJ2_newBytesFor_77867 : ByteArray := prog_33_method_2_code
def yJ2_newBytesFor_77867 : MethodName := ⟨RJ2, "newBytesFor", "(I)[B"⟩
abbrev cJ2_newBytesLength_0f7a4 : ByteArray := prog_33_method_3_code
def yJ2_newBytesLength_0f7a4 : MethodName := ⟨RJ2, "newBytesLength", "(I)I"⟩
abbrev cJ2_putChar_b72d1 : ByteArray := prog_33_method_4_code
def yJ2_putChar_b72d1 : MethodName := ⟨RJ2, "putChar", "([BII)V"⟩
abbrev cJ2_getChar_3b067 : ByteArray := prog_33_method_5_code
def yJ2_getChar_3b067 : MethodName := ⟨RJ2, "getChar", "([BI)C"⟩
abbrev cJ2_length_9d52b : ByteArray := prog_33_method_6_code
def yJ2_length_9d52b : MethodName := ⟨RJ2, "length", "([B)I"⟩
abbrev cJ2_coderFromArrayLen_85cad : ByteArray := prog_33_method_15_code
def yJ2_coderFromArrayLen_85cad : MethodName := ⟨RJ2, "coderFromArrayLen", "([BI)B"⟩
abbrev cJ2_compress_39247 : ByteArray := prog_33_method_17_code
def yJ2_compress_39247 : MethodName := ⟨RJ2, "compress", "([BII)[B"⟩
abbrev cJ2_compress_5af95 : ByteArray := prog_33_method_22_code
def yJ2_compress_5af95 : MethodName := ⟨RJ2, "compress", "([BI[BII)I"⟩
abbrev cJ2_putCharSB_b72d1 : ByteArray := prog_33_method_71_code
def yJ2_putCharSB_b72d1 : MethodName := ⟨RJ2, "putCharSB", "([BII)V"⟩
abbrev cJ2_getChars_46870 : ByteArray := prog_33_method_77_code
def yJ2_getChars_46870 : MethodName := ⟨RJ2, "getChars", "(III[B)I"⟩
abbrev cJ2_putCharsAt_cd4e5 : ByteArray := prog_33_method_81_code
def yJ2_putCharsAt_cd4e5 : MethodName := ⟨RJ2, "putCharsAt", "([BICCCC)I"⟩
abbrev cJ2_charAt_3b067 : ByteArray := prog_33_method_83_code
def yJ2_charAt_3b067 : MethodName := ⟨RJ2, "charAt", "([BI)C"⟩
abbrev cJ2_inflate_0e8fd : ByteArray := prog_33_method_86_code
def yJ2_inflate_0e8fd : MethodName := ⟨RJ2, "inflate", "([BI[BII)V"⟩
abbrev cJ2_getChars_ba4f3 : ByteArray := prog_33_method_89_code
def yJ2_getChars_ba4f3 : MethodName := ⟨RJ2, "getChars", "(II[B)I"⟩
abbrev cJ2_checkIndex_2214a : ByteArray := prog_33_method_91_code
def yJ2_checkIndex_2214a : MethodName := ⟨RJ2, "checkIndex", "(I[B)V"⟩
abbrev cJ2_checkBoundsBeginEnd_d044e : ByteArray := prog_33_method_93_code
def yJ2_checkBoundsBeginEnd_d044e : MethodName := ⟨RJ2, "checkBoundsBeginEnd", "(II[B)V"⟩
abbrev cJ2_checkBoundsOffCount_d044e : ByteArray := prog_33_method_94_code
def yJ2_checkBoundsOffCount_d044e : MethodName := ⟨RJ2, "checkBoundsOffCount", "(II[B)V"⟩
def RJ10 : String := "java/lang/System"
def TJ10 : u_T := fun k => match k with
  | _ => ("", "", "", false)
def tyJ10 : Nat → FieldType := fun k => match k with
  | _ => .int
theorem nmJ10 : ∀ a, a < 0 → ∀ b, b < 0 → a ≠ b → (TJ10 a).2.1 ≠ (TJ10 b).2.1 := by decide +kernel
theorem tyJ10_ok : ∀ k, k < 0 → parseFieldDescriptor (TJ10 k).2.2.1 = some (tyJ10 k) := by decide +kernel
def RJxfd54e : String := "java/lang/constant/Constable"
def TJxfd54e : u_T := fun k => match k with
  | _ => ("", "", "", false)
def tyJxfd54e : Nat → FieldType := fun k => match k with
  | _ => .int
theorem nmJxfd54e : ∀ a, a < 0 → ∀ b, b < 0 → a ≠ b → (TJxfd54e a).2.1 ≠ (TJxfd54e b).2.1 := by decide +kernel
theorem tyJxfd54e_ok : ∀ k, k < 0 → parseFieldDescriptor (TJxfd54e k).2.2.1 = some (tyJxfd54e k) := by decide +kernel
def RJx3cf43 : String := "java/lang/constant/ConstantDesc"
def TJx3cf43 : u_T := fun k => match k with
  | _ => ("", "", "", false)
def tyJx3cf43 : Nat → FieldType := fun k => match k with
  | _ => .int
theorem nmJx3cf43 : ∀ a, a < 0 → ∀ b, b < 0 → a ≠ b → (TJx3cf43 a).2.1 ≠ (TJx3cf43 b).2.1 := by decide +kernel
theorem tyJx3cf43_ok : ∀ k, k < 0 → parseFieldDescriptor (TJx3cf43 k).2.2.1 = some (tyJx3cf43 k) := by decide +kernel
def RJxa1e45 : String := "java/util/AbstractCollection"
def TJxa1e45 : u_T := fun k => match k with
  | _ => ("", "", "", false)
def tyJxa1e45 : Nat → FieldType := fun k => match k with
  | _ => .int
theorem nmJxa1e45 : ∀ a, a < 0 → ∀ b, b < 0 → a ≠ b → (TJxa1e45 a).2.1 ≠ (TJxa1e45 b).2.1 := by decide +kernel
theorem tyJxa1e45_ok : ∀ k, k < 0 → parseFieldDescriptor (TJxa1e45 k).2.2.1 = some (tyJxa1e45 k) := by decide +kernel
abbrev cJxa1e45_init_da8c8 : ByteArray := prog_38_method_1_code
def yJxa1e45_init_da8c8 : MethodName := ⟨RJxa1e45, "<init>", "()V"⟩
def RJxc12de : String := "java/util/AbstractList"
def TJxc12de : u_T := fun k => match k with
  | _ => ("", "", "", false)
def tyJxc12de : Nat → FieldType := fun k => match k with
  | _ => .int
theorem nmJxc12de : ∀ a, a < 0 → ∀ b, b < 0 → a ≠ b → (TJxc12de a).2.1 ≠ (TJxc12de b).2.1 := by decide +kernel
theorem tyJxc12de_ok : ∀ k, k < 0 → parseFieldDescriptor (TJxc12de k).2.2.1 = some (tyJxc12de k) := by decide +kernel
abbrev cJxc12de_init_da8c8 : ByteArray := prog_39_method_1_code
def yJxc12de_init_da8c8 : MethodName := ⟨RJxc12de, "<init>", "()V"⟩
def RJx4a65c : String := "java/util/ArrayList"
def TJx4a65c : u_T := fun k => match k with
  | 0 => ("java/util/AbstractList", "modCount", "I", false)
  | 1 => ("java/util/ArrayList", "elementData", "[Ljava/lang/Object;", false)
  | _ => ("java/util/ArrayList", "size", "I", false)
def tyJx4a65c : Nat → FieldType := fun k => match k with
  | 0 => .int
  | 1 => .array (.object "java/lang/Object")
  | _ => .int
theorem nmJx4a65c : ∀ a, a < 3 → ∀ b, b < 3 → a ≠ b → (TJx4a65c a).2.1 ≠ (TJx4a65c b).2.1 := by decide +kernel
theorem tyJx4a65c_ok : ∀ k, k < 3 → parseFieldDescriptor (TJx4a65c k).2.2.1 = some (tyJx4a65c k) := by decide +kernel
abbrev cJx4a65c_init_da8c8 : ByteArray := prog_40_method_2_code
def yJx4a65c_init_da8c8 : MethodName := ⟨RJx4a65c, "<init>", "()V"⟩
abbrev cJx4a65c_grow_92f84 : ByteArray := prog_40_method_6_code
def yJx4a65c_grow_92f84 : MethodName := ⟨RJx4a65c, "grow", "(I)[Ljava/lang/Object;"⟩
abbrev cJx4a65c_grow_d5877 : ByteArray := prog_40_method_7_code
def yJx4a65c_grow_d5877 : MethodName := ⟨RJx4a65c, "grow", "()[Ljava/lang/Object;"⟩
abbrev cJx4a65c_size_8abf5 : ByteArray := prog_40_method_8_code
def yJx4a65c_size_8abf5 : MethodName := ⟨RJx4a65c, "size", "()I"⟩
abbrev cJx4a65c_elementData_915e3 : ByteArray := prog_40_method_18_code
def yJx4a65c_elementData_915e3 : MethodName := ⟨RJx4a65c, "elementData", "(I)Ljava/lang/Object;"⟩
abbrev cJx4a65c_get_915e3 : ByteArray := prog_40_method_20_code
def yJx4a65c_get_915e3 : MethodName := ⟨RJx4a65c, "get", "(I)Ljava/lang/Object;"⟩
abbrev cJx4a65c_add_72be8 : ByteArray := prog_40_method_24_code
def yJx4a65c_add_72be8 : MethodName := ⟨RJx4a65c, "add", "(Ljava/lang/Object;[Ljava/lang/Object;I)V"⟩
abbrev cJx4a65c_add_9ea2d : ByteArray := prog_40_method_25_code
def yJx4a65c_add_9ea2d : MethodName := ⟨RJx4a65c, "add", "(Ljava/lang/Object;)Z"⟩
abbrev cJx4a65c_remove_915e3 : ByteArray := prog_40_method_29_code
def yJx4a65c_remove_915e3 : MethodName := ⟨RJx4a65c, "remove", "(I)Ljava/lang/Object;"⟩
abbrev cJx4a65c_fastRemove_b59b0 : ByteArray := prog_40_method_39_code
def yJx4a65c_fastRemove_b59b0 : MethodName := ⟨RJx4a65c, "fastRemove", "([Ljava/lang/Object;I)V"⟩
def RJ7 : String := "java/util/Arrays"
def TJ7 : u_T := fun k => match k with
  | _ => ("", "", "", false)
def tyJ7 : Nat → FieldType := fun k => match k with
  | _ => .int
theorem nmJ7 : ∀ a, a < 0 → ∀ b, b < 0 → a ≠ b → (TJ7 a).2.1 ≠ (TJ7 b).2.1 := by decide +kernel
theorem tyJ7_ok : ∀ k, k < 0 → parseFieldDescriptor (TJ7 k).2.2.1 = some (tyJ7 k) := by decide +kernel
abbrev cJ7_equals_331f6 : ByteArray := prog_41_method_81_code
def yJ7_equals_331f6 : MethodName := ⟨RJ7, "equals", "([J[J)Z"⟩
abbrev cJ7_fill_d0a16 : ByteArray := prog_41_method_101_code
def yJ7_fill_d0a16 : MethodName := ⟨RJ7, "fill", "([JJ)V"⟩
abbrev cJ7_fill_53178 : ByteArray := prog_41_method_103_code
def yJ7_fill_53178 : MethodName := ⟨RJ7, "fill", "([II)V"⟩
abbrev cJ7_copyOf_1904c : ByteArray := prog_41_method_119_code
def yJ7_copyOf_1904c : MethodName := ⟨RJ7, "copyOf", "([Ljava/lang/Object;I)[Ljava/lang/Object;"⟩
abbrev cJ7_copyOf_6403c : ByteArray := prog_41_method_120_code
def yJ7_copyOf_6403c : MethodName := ⟨RJ7, "copyOf", "([Ljava/lang/Object;ILjava/lang/Class;)[Ljava/lang/Object;"⟩
abbrev cJ7_copyOf_9075b : ByteArray := prog_41_method_121_code
def yJ7_copyOf_9075b : MethodName := ⟨RJ7, "copyOf", "([BI)[B"⟩
abbrev cJ7_checkLength_df160 : ByteArray := prog_41_method_131_code
def yJ7_checkLength_df160 : MethodName := ⟨RJ7, "checkLength", "(II)V"⟩
abbrev cJ7_copyOfRange_39247 : ByteArray := prog_41_method_132_code
def yJ7_copyOfRange_39247 : MethodName := ⟨RJ7, "copyOfRange", "([BII)[B"⟩
abbrev cJ7_copyOfRangeByte_39247 : ByteArray := prog_41_method_133_code
def yJ7_copyOfRangeByte_39247 : MethodName := ⟨RJ7, "copyOfRangeByte", "([BII)[B"⟩
def RJx5ef63 : String := "java/util/Collection"
def TJx5ef63 : u_T := fun k => match k with
  | _ => ("", "", "", false)
def tyJx5ef63 : Nat → FieldType := fun k => match k with
  | _ => .int
theorem nmJx5ef63 : ∀ a, a < 0 → ∀ b, b < 0 → a ≠ b → (TJx5ef63 a).2.1 ≠ (TJx5ef63 b).2.1 := by decide +kernel
theorem tyJx5ef63_ok : ∀ k, k < 0 → parseFieldDescriptor (TJx5ef63 k).2.2.1 = some (tyJx5ef63 k) := by decide +kernel
def RJxbd725 : String := "java/util/List"
def TJxbd725 : u_T := fun k => match k with
  | _ => ("", "", "", false)
def tyJxbd725 : Nat → FieldType := fun k => match k with
  | _ => .int
theorem nmJxbd725 : ∀ a, a < 0 → ∀ b, b < 0 → a ≠ b → (TJxbd725 a).2.1 ≠ (TJxbd725 b).2.1 := by decide +kernel
theorem tyJxbd725_ok : ∀ k, k < 0 → parseFieldDescriptor (TJxbd725 k).2.2.1 = some (tyJxbd725 k) := by decide +kernel
def RJ15 : String := "java/util/Objects"
def TJ15 : u_T := fun k => match k with
  | _ => ("", "", "", false)
def tyJ15 : Nat → FieldType := fun k => match k with
  | _ => .int
theorem nmJ15 : ∀ a, a < 0 → ∀ b, b < 0 → a ≠ b → (TJ15 a).2.1 ≠ (TJ15 b).2.1 := by decide +kernel
theorem tyJ15_ok : ∀ k, k < 0 → parseFieldDescriptor (TJ15 k).2.2.1 = some (tyJ15 k) := by decide +kernel
abbrev cJ15_checkIndex_7cf53 : ByteArray := prog_44_method_17_code
def yJ15_checkIndex_7cf53 : MethodName := ⟨RJ15, "checkIndex", "(II)I"⟩
def RJxf0a74 : String := "java/util/RandomAccess"
def TJxf0a74 : u_T := fun k => match k with
  | _ => ("", "", "", false)
def tyJxf0a74 : Nat → FieldType := fun k => match k with
  | _ => .int
theorem nmJxf0a74 : ∀ a, a < 0 → ∀ b, b < 0 → a ≠ b → (TJxf0a74 a).2.1 ≠ (TJxf0a74 b).2.1 := by decide +kernel
theorem tyJxf0a74_ok : ∀ k, k < 0 → parseFieldDescriptor (TJxf0a74 k).2.2.1 = some (tyJxf0a74 k) := by decide +kernel
def RJxa66e6 : String := "java/util/SequencedCollection"
def TJxa66e6 : u_T := fun k => match k with
  | _ => ("", "", "", false)
def tyJxa66e6 : Nat → FieldType := fun k => match k with
  | _ => .int
theorem nmJxa66e6 : ∀ a, a < 0 → ∀ b, b < 0 → a ≠ b → (TJxa66e6 a).2.1 ≠ (TJxa66e6 b).2.1 := by decide +kernel
theorem tyJxa66e6_ok : ∀ k, k < 0 → parseFieldDescriptor (TJxa66e6 k).2.2.1 = some (tyJxa66e6 k) := by decide +kernel
def RJx9a822 : String := "jdk/internal/misc/Unsafe"
def TJx9a822 : u_T := fun k => match k with
  | _ => ("", "", "", false)
def tyJx9a822 : Nat → FieldType := fun k => match k with
  | _ => .int
theorem nmJx9a822 : ∀ a, a < 0 → ∀ b, b < 0 → a ≠ b → (TJx9a822 a).2.1 ≠ (TJx9a822 b).2.1 := by decide +kernel
theorem tyJx9a822_ok : ∀ k, k < 0 → parseFieldDescriptor (TJx9a822 k).2.2.1 = some (tyJx9a822 k) := by decide +kernel
abbrev cJx9a822_getLongUnaligned_f02c6 : ByteArray := prog_47_method_334_code
def yJx9a822_getLongUnaligned_f02c6 : MethodName := ⟨RJx9a822, "getLongUnaligned", "(Ljava/lang/Object;J)J"⟩
abbrev cJx9a822_getIntUnaligned_25a47 : ByteArray := prog_47_method_336_code
def yJx9a822_getIntUnaligned_25a47 : MethodName := ⟨RJx9a822, "getIntUnaligned", "(Ljava/lang/Object;J)I"⟩
abbrev cJx9a822_pickPos_7cf53 : ByteArray := prog_47_method_350_code
def yJx9a822_pickPos_7cf53 : MethodName := ⟨RJx9a822, "pickPos", "(II)I"⟩
abbrev cJx9a822_makeLong_0477f : ByteArray := prog_47_method_351_code
def yJx9a822_makeLong_0477f : MethodName := ⟨RJx9a822, "makeLong", "(BBBBBBBB)J"⟩
abbrev cJx9a822_makeLong_4b46d : ByteArray := prog_47_method_352_code
def yJx9a822_makeLong_4b46d : MethodName := ⟨RJx9a822, "makeLong", "(SSSS)J"⟩
abbrev cJx9a822_makeLong_a216e : ByteArray := prog_47_method_353_code
def yJx9a822_makeLong_a216e : MethodName := ⟨RJx9a822, "makeLong", "(II)J"⟩
abbrev cJx9a822_makeInt_4e28c : ByteArray := prog_47_method_354_code
def yJx9a822_makeInt_4e28c : MethodName := ⟨RJx9a822, "makeInt", "(SS)I"⟩
abbrev cJx9a822_makeInt_86272 : ByteArray := prog_47_method_355_code
def yJx9a822_makeInt_86272 : MethodName := ⟨RJx9a822, "makeInt", "(BBBB)I"⟩
abbrev cJx9a822_toUnsignedInt_4d018 : ByteArray := prog_47_method_366_code
def yJx9a822_toUnsignedInt_4d018 : MethodName := ⟨RJx9a822, "toUnsignedInt", "(B)I"⟩
abbrev cJx9a822_toUnsignedInt_f1ed4 : ByteArray := prog_47_method_367_code
def yJx9a822_toUnsignedInt_f1ed4 : MethodName := ⟨RJx9a822, "toUnsignedInt", "(S)I"⟩
abbrev cJx9a822_toUnsignedLong_c5be9 : ByteArray := prog_47_method_368_code
def yJx9a822_toUnsignedLong_c5be9 : MethodName := ⟨RJx9a822, "toUnsignedLong", "(B)J"⟩
abbrev cJx9a822_toUnsignedLong_51cfc : ByteArray := prog_47_method_369_code
def yJx9a822_toUnsignedLong_51cfc : MethodName := ⟨RJx9a822, "toUnsignedLong", "(S)J"⟩
abbrev cJx9a822_toUnsignedLong_3e8ac : ByteArray := prog_47_method_370_code
def yJx9a822_toUnsignedLong_3e8ac : MethodName := ⟨RJx9a822, "toUnsignedLong", "(I)J"⟩
def RJxf92f9 : String := "jdk/internal/misc/UnsafeConstants"
def TJxf92f9 : u_T := fun k => match k with
  | _ => ("", "", "", false)
def tyJxf92f9 : Nat → FieldType := fun k => match k with
  | _ => .int
theorem nmJxf92f9 : ∀ a, a < 0 → ∀ b, b < 0 → a ≠ b → (TJxf92f9 a).2.1 ≠ (TJxf92f9 b).2.1 := by decide +kernel
theorem tyJxf92f9_ok : ∀ k, k < 0 → parseFieldDescriptor (TJxf92f9 k).2.2.1 = some (tyJxf92f9 k) := by decide +kernel
def RJ8 : String := "jdk/internal/util/ArraysSupport"
def TJ8 : u_T := fun k => match k with
  | _ => ("", "", "", false)
def tyJ8 : Nat → FieldType := fun k => match k with
  | _ => .int
theorem nmJ8 : ∀ a, a < 0 → ∀ b, b < 0 → a ≠ b → (TJ8 a).2.1 ≠ (TJ8 b).2.1 := by decide +kernel
theorem tyJ8_ok : ∀ k, k < 0 → parseFieldDescriptor (TJ8 k).2.2.1 = some (tyJ8 k) := by decide +kernel
abbrev cJ8_vectorizedMismatch_456ae : ByteArray := prog_49_method_3_code
def yJ8_vectorizedMismatch_456ae : MethodName := ⟨RJ8, "vectorizedMismatch", "(Ljava/lang/Object;JLjava/lang/Object;JII)I"⟩
abbrev cJ8_mismatch_974f6 : ByteArray := prog_49_method_23_code
def yJ8_mismatch_974f6 : MethodName := ⟨RJ8, "mismatch", "([J[JI)I"⟩
abbrev cJ8_newLength_cabcc : ByteArray := prog_49_method_27_code
def yJ8_newLength_cabcc : MethodName := ⟨RJ8, "newLength", "(III)I"⟩
abbrev cJ8_hugeLength_7cf53 : ByteArray := prog_49_method_28_code
def yJ8_hugeLength_7cf53 : MethodName := ⟨RJ8, "hugeLength", "(II)I"⟩
def RJ3 : String := "jdk/internal/util/Preconditions"
def TJ3 : u_T := fun k => match k with
  | _ => ("", "", "", false)
def tyJ3 : Nat → FieldType := fun k => match k with
  | _ => .int
theorem nmJ3 : ∀ a, a < 0 → ∀ b, b < 0 → a ≠ b → (TJ3 a).2.1 ≠ (TJ3 b).2.1 := by decide +kernel
theorem tyJ3_ok : ∀ k, k < 0 → parseFieldDescriptor (TJ3 k).2.2.1 = some (tyJ3 k) := by decide +kernel
abbrev cJ3_checkIndex_8e157 : ByteArray := prog_50_method_11_code
def yJ3_checkIndex_8e157 : MethodName := ⟨RJ3, "checkIndex", "(IILjava/util/function/BiFunction;)I"⟩
abbrev cJ3_checkFromToIndex_8c36e : ByteArray := prog_50_method_12_code
def yJ3_checkFromToIndex_8c36e : MethodName := ⟨RJ3, "checkFromToIndex", "(IIILjava/util/function/BiFunction;)I"⟩
abbrev cJ3_checkFromIndexSize_8c36e : ByteArray := prog_50_method_13_code
def yJ3_checkFromIndexSize_8c36e : MethodName := ⟨RJ3, "checkFromIndexSize", "(IIILjava/util/function/BiFunction;)I"⟩
def RL : String := "CardLoomLaw"
abbrev cL_put : ByteArray := method_2_code
def yL_put : MethodName := ⟨RL, "put", "(LCardLoom;[II)V"⟩
abbrev cL_flush : ByteArray := method_3_code
def yL_flush : MethodName := ⟨RL, "flush", "(LCardLoom;[I)V"⟩
abbrev cL_said : ByteArray := method_5_code
def yL_said : MethodName := ⟨RL, "said", "(LCardLoom;[I)I"⟩
abbrev cL_cell : ByteArray := method_7_code
def yL_cell : MethodName := ⟨RL, "cell", "([II)I"⟩
abbrev cL_loom : ByteArray := method_8_code
def yL_loom : MethodName := ⟨RL, "loom", "([I)LCardLoomLaw$Loom;"⟩
abbrev cL_list : ByteArray := method_9_code
def yL_list : MethodName := ⟨RL, "list", "(Ljava/lang/StringBuilder;I)Ljava/lang/StringBuilder;"⟩
abbrev cL_text : ByteArray := method_10_code
def yL_text : MethodName := ⟨RL, "text", "(LCardLoomLaw$Loom;I)Ljava/lang/String;"⟩
abbrev cL_told : ByteArray := method_11_code
def yL_told : MethodName := ⟨RL, "told", "(LCardLoom;[ILjava/lang/CharSequence;)I"⟩
abbrev cL_law : ByteArray := code
def yL_law : MethodName := ⟨RL, "law", "([I)Z"⟩
abbrev cL_isAnyStuck : ByteArray := method_14_code
def yL_isAnyStuck : MethodName := ⟨RL, "isAnyStuck", "(LCardLoom;)Z"⟩
abbrev cL_isWhole : ByteArray := method_15_code
def yL_isWhole : MethodName := ⟨RL, "isWhole", "(LCardLoom;)Z"⟩
abbrev cL_sees : ByteArray := method_16_code
def yL_sees : MethodName := ⟨RL, "sees", "(LCardLoom;[J)V"⟩
abbrev vwCl : List vw_C := [(RX0, TX0, 8), (RX1, TX1, 3), (RX2, TX2, 7), (RX3, TX3, 13), (RX4, TX4, 2), (RX5, TX5, 5), (RX6, TX6, 2), (RX7, TX7, 12), (RX8, TX8, 7), (RX9, TX9, 15), (RX6, TX6, 2), (RX6, TX6, 2), (RX6, TX6, 2), (RX6, TX6, 2), (RX6, TX6, 2), (RX6, TX6, 2), (RJ4, TJ4, 4), (RJ0, TJ0, 4), (RJx4a65c, TJx4a65c, 3)]
