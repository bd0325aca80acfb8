/-! ===== BEGIN printed: names, fields, word lists, decode rows ===== -/
def RX0 : String := "CopyDebts$Engine"
def TX0 : u_T := fun k => match k with
  | 0 => ("CopyDebts$Engine", "memory", "LCopyDebts$Memory;", true)
  | 1 => ("CopyDebts$Engine", "touched", "[Z", true)
  | 2 => ("CopyDebts$Engine", "carried", "[I", true)
  | _ => ("CopyDebts$Engine", "depths", "[I", true)
def tyX0 : Nat → FieldType := fun k => match k with
  | 0 => .object "CopyDebts$Memory"
  | 1 => .array .boolean
  | 2 => .array .int
  | _ => .array .int
abbrev wsX00 : List Cond := u_ws RX0 TX0 4
theorem nmX0 : ∀ a, a < 4 → ∀ b, b < 4 → a ≠ b → (TX0 a).2.1 ≠ (TX0 b).2.1 := by decide +kernel
theorem tyX0_ok : ∀ k, k < 4 → parseFieldDescriptor (TX0 k).2.2.1 = some (tyX0 k) := by decide +kernel
abbrev cX0_init : ByteArray := prog_2_method_1_code
def yX0_init : MethodName := ⟨RX0, "<init>", "()V"⟩
abbrev cX0_makeCopy : ByteArray := prog_2_method_2_code
def yX0_makeCopy : MethodName := ⟨RX0, "makeCopy", "(III)I"⟩
abbrev cX0_owe : ByteArray := prog_2_method_3_code
def yX0_owe : MethodName := ⟨RX0, "owe", "(III)V"⟩
abbrev cX0_fillRow : ByteArray := prog_2_method_4_code
def yX0_fillRow : MethodName := ⟨RX0, "fillRow", "(III)I"⟩
abbrev cX0_swapPlaces : ByteArray := prog_2_method_5_code
def yX0_swapPlaces : MethodName := ⟨RX0, "swapPlaces", "(II)I"⟩
abbrev cX0_fetchPlace : ByteArray := prog_2_method_6_code
def yX0_fetchPlace : MethodName := ⟨RX0, "fetchPlace", "(I)I"⟩
abbrev cX0_passTicks : ByteArray := prog_2_method_7_code
def yX0_passTicks : MethodName := ⟨RX0, "passTicks", "(I)I"⟩
abbrev cX0_payRow : ByteArray := prog_2_method_8_code
def yX0_payRow : MethodName := ⟨RX0, "payRow", "(II)I"⟩
abbrev cX0_lockRow : ByteArray := prog_2_method_9_code
def yX0_lockRow : MethodName := ⟨RX0, "lockRow", "(II)I"⟩
abbrev cX0_keepLimit : ByteArray := prog_2_method_10_code
def yX0_keepLimit : MethodName := ⟨RX0, "keepLimit", "()V"⟩
abbrev cX0_payUntilPaid : ByteArray := prog_2_method_11_code
def yX0_payUntilPaid : MethodName := ⟨RX0, "payUntilPaid", "(I)I"⟩
abbrev cX0_ticksFor : ByteArray := prog_2_method_12_code
def yX0_ticksFor : MethodName := ⟨RX0, "ticksFor", "(I)I"⟩
abbrev cX0_touchRow : ByteArray := prog_2_method_13_code
def yX0_touchRow : MethodName := ⟨RX0, "touchRow", "(II)V"⟩
abbrev cX0_payDependents : ByteArray := prog_2_method_14_code
def yX0_payDependents : MethodName := ⟨RX0, "payDependents", "()I"⟩
abbrev cX0_dropTouched : ByteArray := prog_2_method_15_code
def yX0_dropTouched : MethodName := ⟨RX0, "dropTouched", "()V"⟩
abbrev cX0_pay : ByteArray := prog_2_method_16_code
def yX0_pay : MethodName := ⟨RX0, "pay", "(II)V"⟩
abbrev cX0_placeFor : ByteArray := prog_2_method_17_code
def yX0_placeFor : MethodName := ⟨RX0, "placeFor", "(I)I"⟩
abbrev cX0_rankOf : ByteArray := prog_2_method_18_code
def yX0_rankOf : MethodName := ⟨RX0, "rankOf", "(II)I"⟩
abbrev cX0_measureDepths : ByteArray := prog_2_method_20_code
def yX0_measureDepths : MethodName := ⟨RX0, "measureDepths", "()V"⟩
def RX1 : String := "CopyDebts$History"
def TX1 : u_T := fun k => match k with
  | 0 => ("CopyDebts$History", "kept", "[LCopyDebts$Memory;", true)
  | 1 => ("CopyDebts$History", "at", "I", false)
  | _ => ("CopyDebts$History", "count", "I", false)
def tyX1 : Nat → FieldType := fun k => match k with
  | 0 => .array (.object "CopyDebts$Memory")
  | 1 => .int
  | _ => .int
abbrev wsX10 : List Cond := u_ws RX1 TX1 3
theorem nmX1 : ∀ a, a < 3 → ∀ b, b < 3 → a ≠ b → (TX1 a).2.1 ≠ (TX1 b).2.1 := by decide +kernel
theorem tyX1_ok : ∀ k, k < 3 → parseFieldDescriptor (TX1 k).2.2.1 = some (tyX1 k) := by decide +kernel
abbrev cX1_init : ByteArray := prog_3_method_1_code
def yX1_init : MethodName := ⟨RX1, "<init>", "()V"⟩
abbrev cX1_forget : ByteArray := prog_3_method_2_code
def yX1_forget : MethodName := ⟨RX1, "forget", "()V"⟩
abbrev cX1_remember : ByteArray := prog_3_method_3_code
def yX1_remember : MethodName := ⟨RX1, "remember", "(LCopyDebts$Memory;)V"⟩
abbrev cX1_goBack : ByteArray := prog_3_method_4_code
def yX1_goBack : MethodName := ⟨RX1, "goBack", "(LCopyDebts$Memory;)V"⟩
def RX2 : String := "CopyDebts$Memory"
def TX2 : u_T := fun k => match k with
  | 0 => ("CopyDebts$Memory", "bytes", "[I", true)
  | 1 => ("CopyDebts$Memory", "sources", "[I", true)
  | 2 => ("CopyDebts$Memory", "promises", "[I", true)
  | 3 => ("CopyDebts$Memory", "locks", "[Z", true)
  | 4 => ("CopyDebts$Memory", "settings", "[I", true)
  | 5 => ("CopyDebts$Memory", "accounts", "[I", true)
  | 6 => ("CopyDebts$Memory", "events", "[I", true)
  | 7 => ("CopyDebts$Memory", "places", "I", false)
  | _ => ("CopyDebts$Memory", "eventCount", "I", false)
def tyX2 : Nat → FieldType := fun k => match k with
  | 0 => .array .int
  | 1 => .array .int
  | 2 => .array .int
  | 3 => .array .boolean
  | 4 => .array .int
  | 5 => .array .int
  | 6 => .array .int
  | 7 => .int
  | _ => .int
abbrev wsX20 : List Cond := u_ws RX2 TX2 9
theorem nmX2 : ∀ a, a < 9 → ∀ b, b < 9 → a ≠ b → (TX2 a).2.1 ≠ (TX2 b).2.1 := by decide +kernel
theorem tyX2_ok : ∀ k, k < 9 → parseFieldDescriptor (TX2 k).2.2.1 = some (tyX2 k) := by decide +kernel
abbrev cX2_init : ByteArray := prog_4_method_1_code
def yX2_init : MethodName := ⟨RX2, "<init>", "()V"⟩
abbrev cX2_clear : ByteArray := prog_4_method_2_code
def yX2_clear : MethodName := ⟨RX2, "clear", "()V"⟩
abbrev cX2_takeFrom : ByteArray := prog_4_method_3_code
def yX2_takeFrom : MethodName := ⟨RX2, "takeFrom", "(LCopyDebts$Memory;)V"⟩
abbrev cX2_isPlace : ByteArray := prog_4_method_4_code
def yX2_isPlace : MethodName := ⟨RX2, "isPlace", "(I)Z"⟩
abbrev cX2_hasRow : ByteArray := prog_4_method_5_code
def yX2_hasRow : MethodName := ⟨RX2, "hasRow", "(II)Z"⟩
abbrev cX2_owes : ByteArray := prog_4_method_6_code
def yX2_owes : MethodName := ⟨RX2, "owes", "(I)Z"⟩
abbrev cX2_rootOf : ByteArray := prog_4_method_7_code
def yX2_rootOf : MethodName := ⟨RX2, "rootOf", "(I)I"⟩
abbrev cX2_hopsOf : ByteArray := prog_4_method_8_code
def yX2_hopsOf : MethodName := ⟨RX2, "hopsOf", "(I)I"⟩
abbrev cX2_valueOf : ByteArray := prog_4_method_9_code
def yX2_valueOf : MethodName := ⟨RX2, "valueOf", "(I)I"⟩
abbrev cX2_hopsBetween : ByteArray := prog_4_method_10_code
def yX2_hopsBetween : MethodName := ⟨RX2, "hopsBetween", "(II)I"⟩
abbrev cX2_countOwed : ByteArray := prog_4_method_11_code
def yX2_countOwed : MethodName := ⟨RX2, "countOwed", "()I"⟩
abbrev cX2_countOwedIn : ByteArray := prog_4_method_12_code
def yX2_countOwedIn : MethodName := ⟨RX2, "countOwedIn", "(II)I"⟩
abbrev cX2_isSource : ByteArray := prog_4_method_13_code
def yX2_isSource : MethodName := ⟨RX2, "isSource", "(I)Z"⟩
abbrev cX2_hasLockIn : ByteArray := prog_4_method_14_code
def yX2_hasLockIn : MethodName := ⟨RX2, "hasLockIn", "(II)Z"⟩
abbrev cX2_refusalOf : ByteArray := prog_4_method_15_code
def yX2_refusalOf : MethodName := ⟨RX2, "refusalOf", "(III)I"⟩
abbrev cX2_continuesDebt : ByteArray := prog_4_method_16_code
def yX2_continuesDebt : MethodName := ⟨RX2, "continuesDebt", "(I)Z"⟩
abbrev cX2_startsDebt : ByteArray := prog_4_method_17_code
def yX2_startsDebt : MethodName := ⟨RX2, "startsDebt", "(I)Z"⟩
abbrev cX2_firstOfDebt : ByteArray := prog_4_method_18_code
def yX2_firstOfDebt : MethodName := ⟨RX2, "firstOfDebt", "(I)I"⟩
abbrev cX2_lengthOfDebt : ByteArray := prog_4_method_19_code
def yX2_lengthOfDebt : MethodName := ⟨RX2, "lengthOfDebt", "(I)I"⟩
abbrev cX2_endDebt : ByteArray := prog_4_method_20_code
def yX2_endDebt : MethodName := ⟨RX2, "endDebt", "(I)V"⟩
abbrev cX2_countPayment : ByteArray := prog_4_method_21_code
def yX2_countPayment : MethodName := ⟨RX2, "countPayment", "(I)V"⟩
abbrev cX2_note : ByteArray := prog_4_method_22_code
def yX2_note : MethodName := ⟨RX2, "note", "(III)V"⟩
def RX3 : String := "CopyDebts$Reader"
def TX3 : u_T := fun k => match k with
  | 0 => ("CopyDebts$Reader", "engine", "LCopyDebts$Engine;", true)
  | 1 => ("CopyDebts$Reader", "buffer", "[I", true)
  | 2 => ("CopyDebts$Reader", "filled", "I", false)
  | 3 => ("CopyDebts$Reader", "error", "I", false)
  | 4 => ("CopyDebts$Reader", "errorAt", "I", false)
  | 5 => ("CopyDebts$Reader", "length", "I", false)
  | 6 => ("CopyDebts$Reader", "kind", "I", false)
  | 7 => ("CopyDebts$Reader", "start", "I", false)
  | 8 => ("CopyDebts$Reader", "end", "I", false)
  | 9 => ("CopyDebts$Reader", "number", "I", false)
  | 10 => ("CopyDebts$Reader", "puts", "I", false)
  | 11 => ("CopyDebts$Reader", "locks", "I", false)
  | 12 => ("CopyDebts$Reader", "copies", "I", false)
  | _ => ("CopyDebts$Reader", "fills", "I", false)
def tyX3 : Nat → FieldType := fun k => match k with
  | 0 => .object "CopyDebts$Engine"
  | 1 => .array .int
  | 2 => .int
  | 3 => .int
  | 4 => .int
  | 5 => .int
  | 6 => .int
  | 7 => .int
  | 8 => .int
  | 9 => .int
  | 10 => .int
  | 11 => .int
  | 12 => .int
  | _ => .int
abbrev wsX30 : List Cond := u_ws RX3 TX3 14
theorem nmX3 : ∀ a, a < 14 → ∀ b, b < 14 → a ≠ b → (TX3 a).2.1 ≠ (TX3 b).2.1 := by decide +kernel
theorem tyX3_ok : ∀ k, k < 14 → parseFieldDescriptor (TX3 k).2.2.1 = some (tyX3 k) := by decide +kernel
abbrev cX3_init : ByteArray := prog_5_method_1_code
def yX3_init : MethodName := ⟨RX3, "<init>", "()V"⟩
abbrev cX3_hasRoom : ByteArray := prog_5_method_2_code
def yX3_hasRoom : MethodName := ⟨RX3, "hasRoom", "(I)Z"⟩
abbrev cX3_takeWord : ByteArray := prog_5_method_3_code
def yX3_takeWord : MethodName := ⟨RX3, "takeWord", "(I)V"⟩
abbrev cX3_parse : ByteArray := prog_5_method_4_code
def yX3_parse : MethodName := ⟨RX3, "parse", "(I)Z"⟩
abbrev cX3_startText : ByteArray := prog_5_method_5_code
def yX3_startText : MethodName := ⟨RX3, "startText", "(I)V"⟩
abbrev cX3_readHeader : ByteArray := prog_5_method_6_code
def yX3_readHeader : MethodName := ⟨RX3, "readHeader", "()V"⟩
abbrev cX3_readNamed : ByteArray := prog_5_method_7_code
def yX3_readNamed : MethodName := ⟨RX3, "readNamed", "(Ljava/lang/String;II)I"⟩
abbrev cX3_readNumber : ByteArray := prog_5_method_8_code
def yX3_readNumber : MethodName := ⟨RX3, "readNumber", "(II)I"⟩
abbrev cX3_readPlace : ByteArray := prog_5_method_9_code
def yX3_readPlace : MethodName := ⟨RX3, "readPlace", "(I)I"⟩
abbrev cX3_readPut : ByteArray := prog_5_method_10_code
def yX3_readPut : MethodName := ⟨RX3, "readPut", "()V"⟩
abbrev cX3_putByte : ByteArray := prog_5_method_11_code
def yX3_putByte : MethodName := ⟨RX3, "putByte", "(II)V"⟩
abbrev cX3_readLock : ByteArray := prog_5_method_12_code
def yX3_readLock : MethodName := ⟨RX3, "readLock", "()V"⟩
abbrev cX3_readCopy : ByteArray := prog_5_method_13_code
def yX3_readCopy : MethodName := ⟨RX3, "readCopy", "()V"⟩
abbrev cX3_readFill : ByteArray := prog_5_method_14_code
def yX3_readFill : MethodName := ⟨RX3, "readFill", "()V"⟩
abbrev cX3_readRule : ByteArray := prog_5_method_15_code
def yX3_readRule : MethodName := ⟨RX3, "readRule", "(I)V"⟩
abbrev cX3_fail : ByteArray := prog_5_method_16_code
def yX3_fail : MethodName := ⟨RX3, "fail", "(I)V"⟩
abbrev cX3_advance : ByteArray := prog_5_method_17_code
def yX3_advance : MethodName := ⟨RX3, "advance", "()V"⟩
abbrev cX3_isLetter : ByteArray := prog_5_method_18_code
def yX3_isLetter : MethodName := ⟨RX3, "isLetter", "(I)Z"⟩
abbrev cX3_isDigit : ByteArray := prog_5_method_19_code
def yX3_isDigit : MethodName := ⟨RX3, "isDigit", "(I)Z"⟩
abbrev cX3_isWord : ByteArray := prog_5_method_20_code
def yX3_isWord : MethodName := ⟨RX3, "isWord", "(Ljava/lang/String;)Z"⟩
def RX4 : String := "CopyDebts$Text"
def TX4 : u_T := fun k => match k with
  | 0 => ("CopyDebts$Text", "signs", "[I", true)
  | _ => ("CopyDebts$Text", "length", "I", false)
def tyX4 : Nat → FieldType := fun k => match k with
  | 0 => .array .int
  | _ => .int
abbrev wsX40 : List Cond := u_ws RX4 TX4 2
theorem nmX4 : ∀ a, a < 2 → ∀ b, b < 2 → a ≠ b → (TX4 a).2.1 ≠ (TX4 b).2.1 := by decide +kernel
theorem tyX4_ok : ∀ k, k < 2 → parseFieldDescriptor (TX4 k).2.2.1 = some (tyX4 k) := by decide +kernel
abbrev cX4_init : ByteArray := prog_6_method_1_code
def yX4_init : MethodName := ⟨RX4, "<init>", "()V"⟩
abbrev cX4_clear : ByteArray := prog_6_method_2_code
def yX4_clear : MethodName := ⟨RX4, "clear", "()V"⟩
abbrev cX4_addSign : ByteArray := prog_6_method_3_code
def yX4_addSign : MethodName := ⟨RX4, "addSign", "(I)V"⟩
abbrev cX4_addNumber : ByteArray := prog_6_method_4_code
def yX4_addNumber : MethodName := ⟨RX4, "addNumber", "(I)V"⟩
def RX5 : String := "CopyDebts"
def TX5 : u_T := fun k => match k with
  | 0 => ("CopyDebts", "live", "LCopyDebts$Engine;", true)
  | 1 => ("CopyDebts", "trial", "LCopyDebts$Engine;", true)
  | 2 => ("CopyDebts", "reader", "LCopyDebts$Reader;", true)
  | 3 => ("CopyDebts", "history", "LCopyDebts$History;", true)
  | 4 => ("CopyDebts", "slots", "[LCopyDebts$Memory;", true)
  | _ => ("CopyDebts", "text", "LCopyDebts$Text;", true)
def tyX5 : Nat → FieldType := fun k => match k with
  | 0 => .object "CopyDebts$Engine"
  | 1 => .object "CopyDebts$Engine"
  | 2 => .object "CopyDebts$Reader"
  | 3 => .object "CopyDebts$History"
  | 4 => .array (.object "CopyDebts$Memory")
  | _ => .object "CopyDebts$Text"
abbrev wsX50 : List Cond := u_ws RX5 TX5 6
theorem nmX5 : ∀ a, a < 6 → ∀ b, b < 6 → a ≠ b → (TX5 a).2.1 ≠ (TX5 b).2.1 := by decide +kernel
theorem tyX5_ok : ∀ k, k < 6 → parseFieldDescriptor (TX5 k).2.2.1 = some (tyX5 k) := by decide +kernel
abbrev cX5_init : ByteArray := prog_1_method_1_code
def yX5_init : MethodName := ⟨RX5, "<init>", "()V"⟩
abbrev cX5_append : ByteArray := prog_1_method_2_code
def yX5_append : MethodName := ⟨RX5, "append", "(IIIII)I"⟩
abbrev cX5_load : ByteArray := prog_1_method_3_code
def yX5_load : MethodName := ⟨RX5, "load", "(I)I"⟩
abbrev cX5_parseError : ByteArray := prog_1_method_4_code
def yX5_parseError : MethodName := ⟨RX5, "parseError", "()I"⟩
abbrev cX5_errorPosition : ByteArray := prog_1_method_5_code
def yX5_errorPosition : MethodName := ⟨RX5, "errorPosition", "()I"⟩
abbrev cX5_size : ByteArray := prog_1_method_7_code
def yX5_size : MethodName := ⟨RX5, "size", "()I"⟩
abbrev cX5_setting : ByteArray := prog_1_method_8_code
def yX5_setting : MethodName := ⟨RX5, "setting", "(I)I"⟩
abbrev cX5_stored : ByteArray := prog_1_method_9_code
def yX5_stored : MethodName := ⟨RX5, "stored", "(I)I"⟩
abbrev cX5_value : ByteArray := prog_1_method_10_code
def yX5_value : MethodName := ⟨RX5, "value", "(I)I"⟩
abbrev cX5_source : ByteArray := prog_1_method_11_code
def yX5_source : MethodName := ⟨RX5, "source", "(I)I"⟩
abbrev cX5_promise : ByteArray := prog_1_method_12_code
def yX5_promise : MethodName := ⟨RX5, "promise", "(I)I"⟩
abbrev cX5_hops : ByteArray := prog_1_method_13_code
def yX5_hops : MethodName := ⟨RX5, "hops", "(I)I"⟩
abbrev cX5_root : ByteArray := prog_1_method_14_code
def yX5_root : MethodName := ⟨RX5, "root", "(I)I"⟩
abbrev cX5_isLocked : ByteArray := prog_1_method_15_code
def yX5_isLocked : MethodName := ⟨RX5, "isLocked", "(I)Z"⟩
abbrev cX5_dependents : ByteArray := prog_1_method_16_code
def yX5_dependents : MethodName := ⟨RX5, "dependents", "(IZ)I"⟩
abbrev cX5_owed : ByteArray := prog_1_method_17_code
def yX5_owed : MethodName := ⟨RX5, "owed", "()I"⟩
abbrev cX5_owedIn : ByteArray := prog_1_method_18_code
def yX5_owedIn : MethodName := ⟨RX5, "owedIn", "(II)I"⟩
abbrev cX5_firstOwed : ByteArray := prog_1_method_19_code
def yX5_firstOwed : MethodName := ⟨RX5, "firstOwed", "(I)I"⟩
abbrev cX5_debts : ByteArray := prog_1_method_20_code
def yX5_debts : MethodName := ⟨RX5, "debts", "()I"⟩
abbrev cX5_debt : ByteArray := prog_1_method_21_code
def yX5_debt : MethodName := ⟨RX5, "debt", "(II)I"⟩
abbrev cX5_most : ByteArray := prog_1_method_22_code
def yX5_most : MethodName := ⟨RX5, "most", "()I"⟩
abbrev cX5_deepest : ByteArray := prog_1_method_23_code
def yX5_deepest : MethodName := ⟨RX5, "deepest", "()I"⟩
abbrev cX5_distance : ByteArray := prog_1_method_24_code
def yX5_distance : MethodName := ⟨RX5, "distance", "(II)I"⟩
abbrev cX5_oldest : ByteArray := prog_1_method_25_code
def yX5_oldest : MethodName := ⟨RX5, "oldest", "()I"⟩
abbrev cX5_creditors : ByteArray := prog_1_method_26_code
def yX5_creditors : MethodName := ⟨RX5, "creditors", "()I"⟩
abbrev cX5_next : ByteArray := prog_1_method_27_code
def yX5_next : MethodName := ⟨RX5, "next", "()I"⟩
abbrev cX5_stale : ByteArray := prog_1_method_28_code
def yX5_stale : MethodName := ⟨RX5, "stale", "()I"⟩
abbrev cX5_sum : ByteArray := prog_1_method_29_code
def yX5_sum : MethodName := ⟨RX5, "sum", "(II)I"⟩
abbrev cX5_find : ByteArray := prog_1_method_30_code
def yX5_find : MethodName := ⟨RX5, "find", "(II)I"⟩
abbrev cX5_same : ByteArray := prog_1_method_31_code
def yX5_same : MethodName := ⟨RX5, "same", "(III)Z"⟩
abbrev cX5_checksum : ByteArray := prog_1_method_32_code
def yX5_checksum : MethodName := ⟨RX5, "checksum", "()J"⟩
abbrev cX5_forcedByCopy : ByteArray := prog_1_method_34_code
def yX5_forcedByCopy : MethodName := ⟨RX5, "forcedByCopy", "(III)I"⟩
abbrev cX5_owedIfCopy : ByteArray := prog_1_method_35_code
def yX5_owedIfCopy : MethodName := ⟨RX5, "owedIfCopy", "(III)I"⟩
abbrev cX5_costOfCopy : ByteArray := prog_1_method_36_code
def yX5_costOfCopy : MethodName := ⟨RX5, "costOfCopy", "(III)I"⟩
abbrev cX5_forcedByWrite : ByteArray := prog_1_method_37_code
def yX5_forcedByWrite : MethodName := ⟨RX5, "forcedByWrite", "(I)I"⟩
abbrev cX5_forcedByFill : ByteArray := prog_1_method_38_code
def yX5_forcedByFill : MethodName := ⟨RX5, "forcedByFill", "(II)I"⟩
abbrev cX5_owedAfter : ByteArray := prog_1_method_40_code
def yX5_owedAfter : MethodName := ⟨RX5, "owedAfter", "(I)I"⟩
abbrev cX5_paidIn : ByteArray := prog_1_method_41_code
def yX5_paidIn : MethodName := ⟨RX5, "paidIn", "(I)I"⟩
abbrev cX5_account : ByteArray := prog_1_method_43_code
def yX5_account : MethodName := ⟨RX5, "account", "(I)I"⟩
abbrev cX5_meanHops : ByteArray := prog_1_method_44_code
def yX5_meanHops : MethodName := ⟨RX5, "meanHops", "()D"⟩
abbrev cX5_idleShare : ByteArray := prog_1_method_45_code
def yX5_idleShare : MethodName := ⟨RX5, "idleShare", "()F"⟩
abbrev cX5_events : ByteArray := prog_1_method_46_code
def yX5_events : MethodName := ⟨RX5, "events", "()I"⟩
abbrev cX5_event : ByteArray := prog_1_method_47_code
def yX5_event : MethodName := ⟨RX5, "event", "(II)I"⟩
abbrev cX5_writeDebts : ByteArray := prog_1_method_48_code
def yX5_writeDebts : MethodName := ⟨RX5, "writeDebts", "()I"⟩
abbrev cX5_writeChain : ByteArray := prog_1_method_49_code
def yX5_writeChain : MethodName := ⟨RX5, "writeChain", "(I)I"⟩
abbrev cX5_textByte : ByteArray := prog_1_method_50_code
def yX5_textByte : MethodName := ⟨RX5, "textByte", "(I)I"⟩
abbrev cX5_copy : ByteArray := prog_1_method_51_code
def yX5_copy : MethodName := ⟨RX5, "copy", "(III)I"⟩
abbrev cX5_write : ByteArray := prog_1_method_52_code
def yX5_write : MethodName := ⟨RX5, "write", "(II)I"⟩
abbrev cX5_fill : ByteArray := prog_1_method_53_code
def yX5_fill : MethodName := ⟨RX5, "fill", "(III)I"⟩
abbrev cX5_exchange : ByteArray := prog_1_method_54_code
def yX5_exchange : MethodName := ⟨RX5, "exchange", "(II)I"⟩
abbrev cX5_move : ByteArray := prog_1_method_55_code
def yX5_move : MethodName := ⟨RX5, "move", "(III)I"⟩
abbrev cX5_fetch : ByteArray := prog_1_method_56_code
def yX5_fetch : MethodName := ⟨RX5, "fetch", "(I)I"⟩
abbrev cX5_tick : ByteArray := prog_1_method_57_code
def yX5_tick : MethodName := ⟨RX5, "tick", "(I)I"⟩
abbrev cX5_payRange : ByteArray := prog_1_method_58_code
def yX5_payRange : MethodName := ⟨RX5, "payRange", "(II)I"⟩
abbrev cX5_shorten : ByteArray := prog_1_method_59_code
def yX5_shorten : MethodName := ⟨RX5, "shorten", "(I)I"⟩
abbrev cX5_setLock : ByteArray := prog_1_method_60_code
def yX5_setLock : MethodName := ⟨RX5, "setLock", "(IZ)I"⟩
abbrev cX5_setSetting : ByteArray := prog_1_method_61_code
def yX5_setSetting : MethodName := ⟨RX5, "setSetting", "(II)I"⟩
abbrev cX5_undo : ByteArray := prog_1_method_62_code
def yX5_undo : MethodName := ⟨RX5, "undo", "()I"⟩
abbrev cX5_undoable : ByteArray := prog_1_method_63_code
def yX5_undoable : MethodName := ⟨RX5, "undoable", "()I"⟩
abbrev cX5_save : ByteArray := prog_1_method_64_code
def yX5_save : MethodName := ⟨RX5, "save", "(I)I"⟩
abbrev cX5_restore : ByteArray := prog_1_method_65_code
def yX5_restore : MethodName := ⟨RX5, "restore", "(I)I"⟩
abbrev cX5_needMemory : ByteArray := prog_1_method_66_code
def yX5_needMemory : MethodName := ⟨RX5, "needMemory", "()V"⟩
abbrev cX5_needPlace : ByteArray := prog_1_method_67_code
def yX5_needPlace : MethodName := ⟨RX5, "needPlace", "(I)V"⟩
abbrev cX5_needRow : ByteArray := prog_1_method_68_code
def yX5_needRow : MethodName := ⟨RX5, "needRow", "(II)V"⟩
abbrev cX5_needPart : ByteArray := prog_1_method_69_code
def yX5_needPart : MethodName := ⟨RX5, "needPart", "(II)V"⟩
abbrev cX5_needByte : ByteArray := prog_1_method_70_code
def yX5_needByte : MethodName := ⟨RX5, "needByte", "(I)V"⟩
abbrev cX5_needTicks : ByteArray := prog_1_method_71_code
def yX5_needTicks : MethodName := ⟨RX5, "needTicks", "(I)V"⟩
abbrev cX5_needUnlocked : ByteArray := prog_1_method_72_code
def yX5_needUnlocked : MethodName := ⟨RX5, "needUnlocked", "(II)V"⟩
abbrev cX5_needCopy : ByteArray := prog_1_method_73_code
def yX5_needCopy : MethodName := ⟨RX5, "needCopy", "(III)V"⟩
abbrev cX5_needSlot : ByteArray := prog_1_method_74_code
def yX5_needSlot : MethodName := ⟨RX5, "needSlot", "(I)V"⟩
abbrev cX5_startTrial : ByteArray := prog_1_method_75_code
def yX5_startTrial : MethodName := ⟨RX5, "startTrial", "()V"⟩
abbrev cX5_tryCopy : ByteArray := prog_1_method_76_code
def yX5_tryCopy : MethodName := ⟨RX5, "tryCopy", "(III)V"⟩
abbrev cX5_addedTo : ByteArray := prog_1_method_77_code
def yX5_addedTo : MethodName := ⟨RX5, "addedTo", "(I)I"⟩
abbrev cX5_writeDebt : ByteArray := prog_1_method_78_code
def yX5_writeDebt : MethodName := ⟨RX5, "writeDebt", "(I)V"⟩
abbrev cX5_leastSetting : ByteArray := prog_1_method_79_code
def yX5_leastSetting : MethodName := ⟨RX5, "leastSetting", "(I)I"⟩
abbrev cX5_greatestSetting : ByteArray := prog_1_method_80_code
def yX5_greatestSetting : MethodName := ⟨RX5, "greatestSetting", "(I)I"⟩
def RX6 : String := "CopyDebtsLaw$Draws"
def TX6 : u_T := fun k => match k with
  | 0 => ("CopyDebtsLaw$Draws", "cells", "[I", true)
  | _ => ("CopyDebtsLaw$Draws", "at", "I", false)
def tyX6 : Nat → FieldType := fun k => match k with
  | 0 => .array .int
  | _ => .int
abbrev wsX60 : List Cond := u_ws RX6 TX6 2
theorem nmX6 : ∀ a, a < 2 → ∀ b, b < 2 → a ≠ b → (TX6 a).2.1 ≠ (TX6 b).2.1 := by decide +kernel
theorem tyX6_ok : ∀ k, k < 2 → parseFieldDescriptor (TX6 k).2.2.1 = some (tyX6 k) := by decide +kernel
abbrev cX6_init : ByteArray := prog_8_method_1_code
def yX6_init : MethodName := ⟨RX6, "<init>", "([I)V"⟩
abbrev cX6_next : ByteArray := prog_8_method_2_code
def yX6_next : MethodName := ⟨RX6, "next", "(II)I"⟩
def RX7 : String := "CopyDebtsLaw$Memory"
def TX7 : u_T := fun k => match k with
  | 0 => ("CopyDebtsLaw$Memory", "text", "Ljava/lang/StringBuilder;", true)
  | 1 => ("CopyDebtsLaw$Memory", "places", "[LCopyDebtsLaw$Place;", true)
  | 2 => ("CopyDebtsLaw$Memory", "settings", "[I", true)
  | 3 => ("CopyDebtsLaw$Memory", "accounts", "[I", true)
  | 4 => ("CopyDebtsLaw$Memory", "events", "[[I", true)
  | 5 => ("CopyDebtsLaw$Memory", "promises", "I", false)
  | _ => ("CopyDebtsLaw$Memory", "logged", "I", false)
def tyX7 : Nat → FieldType := fun k => match k with
  | 0 => .object "java/lang/StringBuilder"
  | 1 => .array (.object "CopyDebtsLaw$Place")
  | 2 => .array .int
  | 3 => .array .int
  | 4 => .array (.array .int)
  | 5 => .int
  | _ => .int
abbrev wsX70 : List Cond := u_ws RX7 TX7 7
theorem nmX7 : ∀ a, a < 7 → ∀ b, b < 7 → a ≠ b → (TX7 a).2.1 ≠ (TX7 b).2.1 := by decide +kernel
theorem tyX7_ok : ∀ k, k < 7 → parseFieldDescriptor (TX7 k).2.2.1 = some (tyX7 k) := by decide +kernel
abbrev cX7_init : ByteArray := prog_9_method_1_code
def yX7_init : MethodName := ⟨RX7, "<init>", "(LCopyDebtsLaw$Draws;)V"⟩
abbrev cX7_isLocked : ByteArray := prog_9_method_2_code
def yX7_isLocked : MethodName := ⟨RX7, "isLocked", "(II)Z"⟩
abbrev cX7_exchange : ByteArray := prog_9_method_3_code
def yX7_exchange : MethodName := ⟨RX7, "exchange", "(LCopyDebtsLaw$Place;LCopyDebtsLaw$Place;)I"⟩
abbrev cX7_left : ByteArray := prog_9_method_4_code
def yX7_left : MethodName := ⟨RX7, "left", "(III)[I"⟩
abbrev cX7_log : ByteArray := prog_9_method_6_code
def yX7_log : MethodName := ⟨RX7, "log", "(III)V"⟩
abbrev cX7_paid : ByteArray := prog_9_method_7_code
def yX7_paid : MethodName := ⟨RX7, "paid", "(LCopyDebtsLaw$Place;I)V"⟩
abbrev cX7_pay : ByteArray := prog_9_method_8_code
def yX7_pay : MethodName := ⟨RX7, "pay", "(LCopyDebtsLaw$Place;I)V"⟩
abbrev cX7_drop : ByteArray := prog_9_method_9_code
def yX7_drop : MethodName := ⟨RX7, "drop", "(LCopyDebtsLaw$Place;)V"⟩
abbrev cX7_owed : ByteArray := prog_9_method_10_code
def yX7_owed : MethodName := ⟨RX7, "owed", "()I"⟩
abbrev cX7_next : ByteArray := prog_9_method_11_code
def yX7_next : MethodName := ⟨RX7, "next", "()LCopyDebtsLaw$Place;"⟩
abbrev cX7_limit : ByteArray := prog_9_method_12_code
def yX7_limit : MethodName := ⟨RX7, "limit", "()V"⟩
abbrev cX7_why : ByteArray := prog_9_method_13_code
def yX7_why : MethodName := ⟨RX7, "why", "(III)I"⟩
abbrev cX7_force : ByteArray := prog_9_method_14_code
def yX7_force : MethodName := ⟨RX7, "force", "(II)I"⟩
abbrev cX7_copy : ByteArray := prog_9_method_15_code
def yX7_copy : MethodName := ⟨RX7, "copy", "(III)V"⟩
abbrev cX7_fill : ByteArray := prog_9_method_16_code
def yX7_fill : MethodName := ⟨RX7, "fill", "(III)I"⟩
abbrev cX7_tick : ByteArray := prog_9_method_17_code
def yX7_tick : MethodName := ⟨RX7, "tick", "()I"⟩
def RX8 : String := "CopyDebtsLaw$Place"
def TX8 : u_T := fun k => match k with
  | 0 => ("CopyDebtsLaw$Place", "number", "I", true)
  | 1 => ("CopyDebtsLaw$Place", "stored", "I", false)
  | 2 => ("CopyDebtsLaw$Place", "promise", "I", false)
  | 3 => ("CopyDebtsLaw$Place", "source", "LCopyDebtsLaw$Place;", false)
  | _ => ("CopyDebtsLaw$Place", "locked", "Z", false)
def tyX8 : Nat → FieldType := fun k => match k with
  | 0 => .int
  | 1 => .int
  | 2 => .int
  | 3 => .object "CopyDebtsLaw$Place"
  | _ => .boolean
abbrev wsX80 : List Cond := u_ws RX8 TX8 5
theorem nmX8 : ∀ a, a < 5 → ∀ b, b < 5 → a ≠ b → (TX8 a).2.1 ≠ (TX8 b).2.1 := by decide +kernel
theorem tyX8_ok : ∀ k, k < 5 → parseFieldDescriptor (TX8 k).2.2.1 = some (tyX8 k) := by decide +kernel
abbrev cX8_init : ByteArray := prog_10_method_1_code
def yX8_init : MethodName := ⟨RX8, "<init>", "(I)V"⟩
abbrev cX8_root : ByteArray := prog_10_method_2_code
def yX8_root : MethodName := ⟨RX8, "root", "()LCopyDebtsLaw$Place;"⟩
abbrev cX8_hops : ByteArray := prog_10_method_3_code
def yX8_hops : MethodName := ⟨RX8, "hops", "()I"⟩
abbrev cX8_value : ByteArray := prog_10_method_4_code
def yX8_value : MethodName := ⟨RX8, "value", "()I"⟩
def RX9 : String := "CopyDebtsModel"
def TX9 : u_T := fun k => match k with
  | _ => ("", "", "", false)
def tyX9 : Nat → FieldType := fun k => match k with
  | _ => .int
abbrev wsX90 : List Cond := u_ws RX9 TX9 0
theorem nmX9 : ∀ a, a < 0 → ∀ b, b < 0 → a ≠ b → (TX9 a).2.1 ≠ (TX9 b).2.1 := by decide +kernel
theorem tyX9_ok : ∀ k, k < 0 → parseFieldDescriptor (TX9 k).2.2.1 = some (tyX9 k) := by decide +kernel
def RJx145de : String := "java/io/Serializable"
def TJx145de : u_T := fun k => match k with
  | _ => ("", "", "", false)
def tyJx145de : Nat → FieldType := fun k => match k with
  | _ => .int
abbrev wsJx145de0 : List Cond := u_ws RJx145de TJx145de 0
theorem nmJx145de : ∀ a, a < 0 → ∀ b, b < 0 → a ≠ b → (TJx145de a).2.1 ≠ (TJx145de b).2.1 := by decide +kernel
theorem tyJx145de_ok : ∀ k, k < 0 → parseFieldDescriptor (TJx145de k).2.2.1 = some (tyJx145de k) := by decide +kernel
def RJ5 : String := "java/lang/AbstractStringBuilder"
def TJ5 : u_T := fun k => match k with
  | _ => ("", "", "", false)
def tyJ5 : Nat → FieldType := fun k => match k with
  | _ => .int
abbrev wsJ50 : List Cond := u_ws RJ5 TJ5 0
theorem nmJ5 : ∀ a, a < 0 → ∀ b, b < 0 → a ≠ b → (TJ5 a).2.1 ≠ (TJ5 b).2.1 := by decide +kernel
theorem tyJ5_ok : ∀ k, k < 0 → parseFieldDescriptor (TJ5 k).2.2.1 = some (tyJ5 k) := by decide +kernel
abbrev cJ5_init_d00df : ByteArray := prog_12_method_2_code
def yJ5_init_d00df : MethodName := ⟨RJ5, "<init>", "(I)V"⟩
abbrev cJ5_init_a7421 : ByteArray := prog_12_method_3_code
def yJ5_init_a7421 : MethodName := ⟨RJ5, "<init>", "(Ljava/lang/String;)V"⟩
abbrev cJ5_length_8abf5 : ByteArray := prog_12_method_6_code
def yJ5_length_8abf5 : MethodName := ⟨RJ5, "length", "()I"⟩
abbrev cJ5_ensureCapacityInternal_d00df : ByteArray := prog_12_method_9_code
def yJ5_ensureCapacityInternal_d00df : MethodName := ⟨RJ5, "ensureCapacityInternal", "(I)V"⟩
abbrev cJ5_newCapacity_0f7a4 : ByteArray := prog_12_method_10_code
def yJ5_newCapacity_0f7a4 : MethodName := ⟨RJ5, "newCapacity", "(I)I"⟩
abbrev cJ5_inflate_da8c8 : ByteArray := prog_12_method_11_code
def yJ5_inflate_da8c8 : MethodName := ⟨RJ5, "inflate", "()V"⟩
abbrev cJ5_charAt_5068e : ByteArray := prog_12_method_14_code
def yJ5_charAt_5068e : MethodName := ⟨RJ5, "charAt", "(I)C"⟩
abbrev cJ5_append_cf1ce : ByteArray := prog_12_method_22_code
def yJ5_append_cf1ce : MethodName := ⟨RJ5, "append", "(Ljava/lang/String;)Ljava/lang/AbstractStringBuilder;"⟩
abbrev cJ5_appendNull_278bc : ByteArray := prog_12_method_26_code
def yJ5_appendNull_278bc : MethodName := ⟨RJ5, "appendNull", "()Ljava/lang/AbstractStringBuilder;"⟩
abbrev cJ5_append_3fe6f : ByteArray := prog_12_method_31_code
def yJ5_append_3fe6f : MethodName := ⟨RJ5, "append", "(C)Ljava/lang/AbstractStringBuilder;"⟩
abbrev cJ5_append_c97b9 : ByteArray := prog_12_method_32_code
def yJ5_append_c97b9 : MethodName := ⟨RJ5, "append", "(I)Ljava/lang/AbstractStringBuilder;"⟩
abbrev cJ5_getValue_6d5f1 : ByteArray := prog_12_method_64_code
def yJ5_getValue_6d5f1 : MethodName := ⟨RJ5, "getValue", "()[B"⟩
abbrev cJ5_isLatin1_aae02 : ByteArray := prog_12_method_68_code
def yJ5_isLatin1_aae02 : MethodName := ⟨RJ5, "isLatin1", "()Z"⟩
abbrev cJ5_inflateIfNeededFor_a7421 : ByteArray := prog_12_method_71_code
def yJ5_inflateIfNeededFor_a7421 : MethodName := ⟨RJ5, "inflateIfNeededFor", "(Ljava/lang/String;)V"⟩
abbrev cJ5_putStringAt_47b60 : ByteArray := prog_12_method_73_code
def yJ5_putStringAt_47b60 : MethodName := ⟨RJ5, "putStringAt", "(ILjava/lang/String;)V"⟩
def RJx2cfe8 : String := "java/lang/Appendable"
def TJx2cfe8 : u_T := fun k => match k with
  | _ => ("", "", "", false)
def tyJx2cfe8 : Nat → FieldType := fun k => match k with
  | _ => .int
abbrev wsJx2cfe80 : List Cond := u_ws RJx2cfe8 TJx2cfe8 0
theorem nmJx2cfe8 : ∀ a, a < 0 → ∀ b, b < 0 → a ≠ b → (TJx2cfe8 a).2.1 ≠ (TJx2cfe8 b).2.1 := by decide +kernel
theorem tyJx2cfe8_ok : ∀ k, k < 0 → parseFieldDescriptor (TJx2cfe8 k).2.2.1 = some (tyJx2cfe8 k) := by decide +kernel
def RJx9f9b0 : String := "java/lang/CharSequence"
def TJx9f9b0 : u_T := fun k => match k with
  | _ => ("", "", "", false)
def tyJx9f9b0 : Nat → FieldType := fun k => match k with
  | _ => .int
abbrev wsJx9f9b00 : List Cond := u_ws RJx9f9b0 TJx9f9b0 0
theorem nmJx9f9b0 : ∀ a, a < 0 → ∀ b, b < 0 → a ≠ b → (TJx9f9b0 a).2.1 ≠ (TJx9f9b0 b).2.1 := by decide +kernel
theorem tyJx9f9b0_ok : ∀ k, k < 0 → parseFieldDescriptor (TJx9f9b0 k).2.2.1 = some (tyJx9f9b0 k) := by decide +kernel
def RJx8e188 : String := "java/lang/Cloneable"
def TJx8e188 : u_T := fun k => match k with
  | _ => ("", "", "", false)
def tyJx8e188 : Nat → FieldType := fun k => match k with
  | _ => .int
abbrev wsJx8e1880 : List Cond := u_ws RJx8e188 TJx8e188 0
theorem nmJx8e188 : ∀ a, a < 0 → ∀ b, b < 0 → a ≠ b → (TJx8e188 a).2.1 ≠ (TJx8e188 b).2.1 := by decide +kernel
theorem tyJx8e188_ok : ∀ k, k < 0 → parseFieldDescriptor (TJx8e188 k).2.2.1 = some (tyJx8e188 k) := by decide +kernel
def RJxb160c : String := "java/lang/Comparable"
def TJxb160c : u_T := fun k => match k with
  | _ => ("", "", "", false)
def tyJxb160c : Nat → FieldType := fun k => match k with
  | _ => .int
abbrev wsJxb160c0 : List Cond := u_ws RJxb160c TJxb160c 0
theorem nmJxb160c : ∀ a, a < 0 → ∀ b, b < 0 → a ≠ b → (TJxb160c a).2.1 ≠ (TJxb160c b).2.1 := by decide +kernel
theorem tyJxb160c_ok : ∀ k, k < 0 → parseFieldDescriptor (TJxb160c k).2.2.1 = some (tyJxb160c k) := by decide +kernel
def RJ6 : String := "java/lang/Integer"
def TJ6 : u_T := fun k => match k with
  | _ => ("", "", "", false)
def tyJ6 : Nat → FieldType := fun k => match k with
  | _ => .int
abbrev wsJ60 : List Cond := u_ws RJ6 TJ6 0
theorem nmJ6 : ∀ a, a < 0 → ∀ b, b < 0 → a ≠ b → (TJ6 a).2.1 ≠ (TJ6 b).2.1 := by decide +kernel
theorem tyJ6_ok : ∀ k, k < 0 → parseFieldDescriptor (TJ6 k).2.2.1 = some (tyJ6 k) := by decide +kernel
abbrev cJ6_getChars_ba4f3 : ByteArray := prog_18_method_12_code
def yJ6_getChars_ba4f3 : MethodName := ⟨RJ6, "getChars", "(II[B)I"⟩
abbrev cJ6_stringSize_0f7a4 : ByteArray := prog_18_method_13_code
def yJ6_stringSize_0f7a4 : MethodName := ⟨RJ6, "stringSize", "(I)I"⟩
def RJ9 : String := "java/lang/Math"
def TJ9 : u_T := fun k => match k with
  | _ => ("", "", "", false)
def tyJ9 : Nat → FieldType := fun k => match k with
  | _ => .int
abbrev wsJ90 : List Cond := u_ws RJ9 TJ9 0
theorem nmJ9 : ∀ a, a < 0 → ∀ b, b < 0 → a ≠ b → (TJ9 a).2.1 ≠ (TJ9 b).2.1 := by decide +kernel
theorem tyJ9_ok : ∀ k, k < 0 → parseFieldDescriptor (TJ9 k).2.2.1 = some (tyJ9 k) := by decide +kernel
abbrev cJ9_max_7cf53 : ByteArray := prog_19_method_65_code
def yJ9_max_7cf53 : MethodName := ⟨RJ9, "max", "(II)I"⟩
abbrev cJ9_min_7cf53 : ByteArray := prog_19_method_69_code
def yJ9_min_7cf53 : MethodName := ⟨RJ9, "min", "(II)I"⟩
def RJxd2413 : String := "java/lang/Number"
def TJxd2413 : u_T := fun k => match k with
  | _ => ("", "", "", false)
def tyJxd2413 : Nat → FieldType := fun k => match k with
  | _ => .int
abbrev wsJxd24130 : List Cond := u_ws RJxd2413 TJxd2413 0
theorem nmJxd2413 : ∀ a, a < 0 → ∀ b, b < 0 → a ≠ b → (TJxd2413 a).2.1 ≠ (TJxd2413 b).2.1 := by decide +kernel
theorem tyJxd2413_ok : ∀ k, k < 0 → parseFieldDescriptor (TJxd2413 k).2.2.1 = some (tyJxd2413 k) := by decide +kernel
def RJ0 : String := "java/lang/String"
def TJ0 : u_T := fun k => match k with
  | 0 => ("java/lang/String", "value", "[B", true)
  | 1 => ("java/lang/String", "coder", "B", true)
  | 2 => ("java/lang/String", "hash", "I", false)
  | _ => ("java/lang/String", "hashIsZero", "Z", false)
def tyJ0 : Nat → FieldType := fun k => match k with
  | 0 => .array .byte
  | 1 => .byte
  | 2 => .int
  | _ => .boolean
abbrev wsJ00 : List Cond := u_ws RJ0 TJ0 4
theorem nmJ0 : ∀ a, a < 4 → ∀ b, b < 4 → a ≠ b → (TJ0 a).2.1 ≠ (TJ0 b).2.1 := by decide +kernel
theorem tyJ0_ok : ∀ k, k < 4 → parseFieldDescriptor (TJ0 k).2.2.1 = some (tyJ0 k) := by decide +kernel
abbrev cJ0_init_81219 : ByteArray := prog_22_method_53_code
def yJ0_init_81219 : MethodName := ⟨RJ0, "<init>", "(Ljava/lang/StringBuilder;)V"⟩
abbrev cJ0_length_8abf5 : ByteArray := prog_22_method_54_code
def yJ0_length_8abf5 : MethodName := ⟨RJ0, "length", "()I"⟩
abbrev cJ0_charAt_5068e : ByteArray := prog_22_method_56_code
def yJ0_charAt_5068e : MethodName := ⟨RJ0, "charAt", "(I)C"⟩
abbrev cJ0_getBytes_840e7 : ByteArray := prog_22_method_147_code
def yJ0_getBytes_840e7 : MethodName := ⟨RJ0, "getBytes", "([BIB)V"⟩
abbrev cJ0_init_db425 : ByteArray := prog_22_method_150_code
def yJ0_init_db425 : MethodName := ⟨RJ0, "<init>", "(Ljava/lang/AbstractStringBuilder;Ljava/lang/Void;)V"⟩
abbrev cJ0_coder_7d493 : ByteArray := prog_22_method_152_code
def yJ0_coder_7d493 : MethodName := ⟨RJ0, "coder", "()B"⟩
abbrev cJ0_isLatin1_aae02 : ByteArray := prog_22_method_154_code
def yJ0_isLatin1_aae02 : MethodName := ⟨RJ0, "isLatin1", "()Z"⟩
abbrev cJ0_checkIndex_df160 : ByteArray := prog_22_method_155_code
def yJ0_checkIndex_df160 : MethodName := ⟨RJ0, "checkIndex", "(II)V"⟩
abbrev cJ0_checkBoundsOffCount_cabcc : ByteArray := prog_22_method_157_code
def yJ0_checkBoundsOffCount_cabcc : MethodName := ⟨RJ0, "checkBoundsOffCount", "(III)I"⟩
abbrev cJ0_checkBoundsBeginEnd_23922 : ByteArray := prog_22_method_158_code
def yJ0_checkBoundsBeginEnd_23922 : MethodName := ⟨RJ0, "checkBoundsBeginEnd", "(III)V"⟩
def RJ4 : String := "java/lang/StringBuilder"
def TJ4 : u_T := fun k => match k with
  | 0 => ("java/lang/AbstractStringBuilder", "value", "[B", false)
  | 1 => ("java/lang/AbstractStringBuilder", "coder", "B", false)
  | 2 => ("java/lang/AbstractStringBuilder", "maybeLatin1", "Z", false)
  | _ => ("java/lang/AbstractStringBuilder", "count", "I", false)
def tyJ4 : Nat → FieldType := fun k => match k with
  | 0 => .array .byte
  | 1 => .byte
  | 2 => .boolean
  | _ => .int
abbrev wsJ40 : List Cond := u_ws RJ4 TJ4 4
theorem nmJ4 : ∀ a, a < 4 → ∀ b, b < 4 → a ≠ b → (TJ4 a).2.1 ≠ (TJ4 b).2.1 := by decide +kernel
theorem tyJ4_ok : ∀ k, k < 4 → parseFieldDescriptor (TJ4 k).2.2.1 = some (tyJ4 k) := by decide +kernel
abbrev cJ4_init_da8c8 : ByteArray := prog_23_method_1_code
def yJ4_init_da8c8 : MethodName := ⟨RJ4, "<init>", "()V"⟩
abbrev cJ4_init_a7421 : ByteArray := prog_23_method_3_code
def yJ4_init_a7421 : MethodName := ⟨RJ4, "<init>", "(Ljava/lang/String;)V"⟩
abbrev cJ4_append_15ec4 : ByteArray := prog_23_method_7_code
def yJ4_append_15ec4 : MethodName := ⟨RJ4, "append", "(Ljava/lang/String;)Ljava/lang/StringBuilder;"⟩
abbrev cJ4_append_cf468 : ByteArray := prog_23_method_14_code
def yJ4_append_cf468 : MethodName := ⟨RJ4, "append", "(C)Ljava/lang/StringBuilder;"⟩
abbrev cJ4_append_bf812 : ByteArray := prog_23_method_15_code
def yJ4_append_bf812 : MethodName := ⟨RJ4, "append", "(I)Ljava/lang/StringBuilder;"⟩
abbrev cJ4_toString_0e30d : ByteArray := prog_23_method_42_code
def yJ4_toString_0e30d : MethodName := ⟨RJ4, "toString", "()Ljava/lang/String;"⟩
abbrev cJ4_append_cf1ce : ByteArray := prog_23_method_80_code
def yJ4_append_cf1ce : MethodName := ⟨RJ4, "append", "(Ljava/lang/String;)Ljava/lang/AbstractStringBuilder;"⟩
abbrev cJ4_charAt_5068e : ByteArray := prog_23_method_88_code
def yJ4_charAt_5068e : MethodName := ⟨RJ4, "charAt", "(I)C"⟩
abbrev cJ4_length_8abf5 : ByteArray := prog_23_method_93_code
def yJ4_length_8abf5 : MethodName := ⟨RJ4, "length", "()I"⟩
def RJ1 : String := "java/lang/StringLatin1"
def TJ1 : u_T := fun k => match k with
  | _ => ("", "", "", false)
def tyJ1 : Nat → FieldType := fun k => match k with
  | _ => .int
abbrev wsJ10 : List Cond := u_ws RJ1 TJ1 0
theorem nmJ1 : ∀ a, a < 0 → ∀ b, b < 0 → a ≠ b → (TJ1 a).2.1 ≠ (TJ1 b).2.1 := by decide +kernel
theorem tyJ1_ok : ∀ k, k < 0 → parseFieldDescriptor (TJ1 k).2.2.1 = some (tyJ1 k) := by decide +kernel
abbrev cJ1_charAt_3b067 : ByteArray := prog_24_method_2_code
def yJ1_charAt_3b067 : MethodName := ⟨RJ1, "charAt", "([BI)C"⟩
abbrev cJ1_canEncode_fc78d : ByteArray := prog_24_method_3_code
def yJ1_canEncode_fc78d : MethodName := ⟨RJ1, "canEncode", "(C)Z"⟩
abbrev cJ1_inflate_0e8fd : ByteArray := prog_24_method_50_code
def yJ1_inflate_0e8fd : MethodName := ⟨RJ1, "inflate", "([BI[BII)V"⟩
def RJ2 : String := "java/lang/StringUTF16"
def TJ2 : u_T := fun k => match k with
  | _ => ("", "", "", false)
def tyJ2 : Nat → FieldType := fun k => match k with
  | _ => .int
abbrev wsJ20 : List Cond := u_ws RJ2 TJ2 0
theorem nmJ2 : ∀ a, a < 0 → ∀ b, b < 0 → a ≠ b → (TJ2 a).2.1 ≠ (TJ2 b).2.1 := by decide +kernel
theorem tyJ2_ok : ∀ k, k < 0 → parseFieldDescriptor (TJ2 k).2.2.1 = some (tyJ2 k) := by decide +kernel
abbrev cJ2_newBytesFor_77867 : ByteArray := prog_25_method_2_code
def yJ2_newBytesFor_77867 : MethodName := ⟨RJ2, "newBytesFor", "(I)[B"⟩
abbrev cJ2_newBytesLength_0f7a4 : ByteArray := prog_25_method_3_code
def yJ2_newBytesLength_0f7a4 : MethodName := ⟨RJ2, "newBytesLength", "(I)I"⟩
abbrev cJ2_putChar_b72d1 : ByteArray := prog_25_method_4_code
def yJ2_putChar_b72d1 : MethodName := ⟨RJ2, "putChar", "([BII)V"⟩
abbrev cJ2_getChar_3b067 : ByteArray := prog_25_method_5_code
def yJ2_getChar_3b067 : MethodName := ⟨RJ2, "getChar", "([BI)C"⟩
abbrev cJ2_length_9d52b : ByteArray := prog_25_method_6_code
def yJ2_length_9d52b : MethodName := ⟨RJ2, "length", "([B)I"⟩
abbrev cJ2_coderFromArrayLen_85cad : ByteArray := prog_25_method_15_code
def yJ2_coderFromArrayLen_85cad : MethodName := ⟨RJ2, "coderFromArrayLen", "([BI)B"⟩
abbrev cJ2_compress_39247 : ByteArray := prog_25_method_17_code
def yJ2_compress_39247 : MethodName := ⟨RJ2, "compress", "([BII)[B"⟩
abbrev cJ2_compress_5af95 : ByteArray := prog_25_method_22_code
def yJ2_compress_5af95 : MethodName := ⟨RJ2, "compress", "([BI[BII)I"⟩
abbrev cJ2_putCharSB_b72d1 : ByteArray := prog_25_method_71_code
def yJ2_putCharSB_b72d1 : MethodName := ⟨RJ2, "putCharSB", "([BII)V"⟩
abbrev cJ2_getChars_46870 : ByteArray := prog_25_method_77_code
def yJ2_getChars_46870 : MethodName := ⟨RJ2, "getChars", "(III[B)I"⟩
abbrev cJ2_putCharsAt_cd4e5 : ByteArray := prog_25_method_81_code
def yJ2_putCharsAt_cd4e5 : MethodName := ⟨RJ2, "putCharsAt", "([BICCCC)I"⟩
abbrev cJ2_charAt_3b067 : ByteArray := prog_25_method_83_code
def yJ2_charAt_3b067 : MethodName := ⟨RJ2, "charAt", "([BI)C"⟩
abbrev cJ2_inflate_0e8fd : ByteArray := prog_25_method_86_code
def yJ2_inflate_0e8fd : MethodName := ⟨RJ2, "inflate", "([BI[BII)V"⟩
abbrev cJ2_getChars_ba4f3 : ByteArray := prog_25_method_89_code
def yJ2_getChars_ba4f3 : MethodName := ⟨RJ2, "getChars", "(II[B)I"⟩
abbrev cJ2_checkIndex_2214a : ByteArray := prog_25_method_91_code
def yJ2_checkIndex_2214a : MethodName := ⟨RJ2, "checkIndex", "(I[B)V"⟩
abbrev cJ2_checkBoundsBeginEnd_d044e : ByteArray := prog_25_method_93_code
def yJ2_checkBoundsBeginEnd_d044e : MethodName := ⟨RJ2, "checkBoundsBeginEnd", "(II[B)V"⟩
abbrev cJ2_checkBoundsOffCount_d044e : ByteArray := prog_25_method_94_code
def yJ2_checkBoundsOffCount_d044e : MethodName := ⟨RJ2, "checkBoundsOffCount", "(II[B)V"⟩
def RJ10 : String := "java/lang/System"
def TJ10 : u_T := fun k => match k with
  | _ => ("", "", "", false)
def tyJ10 : Nat → FieldType := fun k => match k with
  | _ => .int
abbrev wsJ100 : List Cond := u_ws RJ10 TJ10 0
theorem nmJ10 : ∀ a, a < 0 → ∀ b, b < 0 → a ≠ b → (TJ10 a).2.1 ≠ (TJ10 b).2.1 := by decide +kernel
theorem tyJ10_ok : ∀ k, k < 0 → parseFieldDescriptor (TJ10 k).2.2.1 = some (tyJ10 k) := by decide +kernel
def RJxfd54e : String := "java/lang/constant/Constable"
def TJxfd54e : u_T := fun k => match k with
  | _ => ("", "", "", false)
def tyJxfd54e : Nat → FieldType := fun k => match k with
  | _ => .int
abbrev wsJxfd54e0 : List Cond := u_ws RJxfd54e TJxfd54e 0
theorem nmJxfd54e : ∀ a, a < 0 → ∀ b, b < 0 → a ≠ b → (TJxfd54e a).2.1 ≠ (TJxfd54e b).2.1 := by decide +kernel
theorem tyJxfd54e_ok : ∀ k, k < 0 → parseFieldDescriptor (TJxfd54e k).2.2.1 = some (tyJxfd54e k) := by decide +kernel
def RJx3cf43 : String := "java/lang/constant/ConstantDesc"
def TJx3cf43 : u_T := fun k => match k with
  | _ => ("", "", "", false)
def tyJx3cf43 : Nat → FieldType := fun k => match k with
  | _ => .int
abbrev wsJx3cf430 : List Cond := u_ws RJx3cf43 TJx3cf43 0
theorem nmJx3cf43 : ∀ a, a < 0 → ∀ b, b < 0 → a ≠ b → (TJx3cf43 a).2.1 ≠ (TJx3cf43 b).2.1 := by decide +kernel
theorem tyJx3cf43_ok : ∀ k, k < 0 → parseFieldDescriptor (TJx3cf43 k).2.2.1 = some (tyJx3cf43 k) := by decide +kernel
def RJ7 : String := "java/util/Arrays"
def TJ7 : u_T := fun k => match k with
  | _ => ("", "", "", false)
def tyJ7 : Nat → FieldType := fun k => match k with
  | _ => .int
abbrev wsJ70 : List Cond := u_ws RJ7 TJ7 0
theorem nmJ7 : ∀ a, a < 0 → ∀ b, b < 0 → a ≠ b → (TJ7 a).2.1 ≠ (TJ7 b).2.1 := by decide +kernel
theorem tyJ7_ok : ∀ k, k < 0 → parseFieldDescriptor (TJ7 k).2.2.1 = some (tyJ7 k) := by decide +kernel
abbrev cJ7_fill_53178 : ByteArray := prog_28_method_103_code
def yJ7_fill_53178 : MethodName := ⟨RJ7, "fill", "([II)V"⟩
abbrev cJ7_copyOf_9075b : ByteArray := prog_28_method_121_code
def yJ7_copyOf_9075b : MethodName := ⟨RJ7, "copyOf", "([BI)[B"⟩
abbrev cJ7_checkLength_df160 : ByteArray := prog_28_method_131_code
def yJ7_checkLength_df160 : MethodName := ⟨RJ7, "checkLength", "(II)V"⟩
abbrev cJ7_copyOfRange_39247 : ByteArray := prog_28_method_132_code
def yJ7_copyOfRange_39247 : MethodName := ⟨RJ7, "copyOfRange", "([BII)[B"⟩
abbrev cJ7_copyOfRangeByte_39247 : ByteArray := prog_28_method_133_code
def yJ7_copyOfRangeByte_39247 : MethodName := ⟨RJ7, "copyOfRangeByte", "([BII)[B"⟩
def RJ8 : String := "jdk/internal/util/ArraysSupport"
def TJ8 : u_T := fun k => match k with
  | _ => ("", "", "", false)
def tyJ8 : Nat → FieldType := fun k => match k with
  | _ => .int
abbrev wsJ80 : List Cond := u_ws RJ8 TJ8 0
theorem nmJ8 : ∀ a, a < 0 → ∀ b, b < 0 → a ≠ b → (TJ8 a).2.1 ≠ (TJ8 b).2.1 := by decide +kernel
theorem tyJ8_ok : ∀ k, k < 0 → parseFieldDescriptor (TJ8 k).2.2.1 = some (tyJ8 k) := by decide +kernel
abbrev cJ8_newLength_cabcc : ByteArray := prog_29_method_27_code
def yJ8_newLength_cabcc : MethodName := ⟨RJ8, "newLength", "(III)I"⟩
abbrev cJ8_hugeLength_7cf53 : ByteArray := prog_29_method_28_code
def yJ8_hugeLength_7cf53 : MethodName := ⟨RJ8, "hugeLength", "(II)I"⟩
def RJ3 : String := "jdk/internal/util/Preconditions"
def TJ3 : u_T := fun k => match k with
  | _ => ("", "", "", false)
def tyJ3 : Nat → FieldType := fun k => match k with
  | _ => .int
abbrev wsJ30 : List Cond := u_ws RJ3 TJ3 0
theorem nmJ3 : ∀ a, a < 0 → ∀ b, b < 0 → a ≠ b → (TJ3 a).2.1 ≠ (TJ3 b).2.1 := by decide +kernel
theorem tyJ3_ok : ∀ k, k < 0 → parseFieldDescriptor (TJ3 k).2.2.1 = some (tyJ3 k) := by decide +kernel
abbrev cJ3_checkIndex_8e157 : ByteArray := prog_30_method_11_code
def yJ3_checkIndex_8e157 : MethodName := ⟨RJ3, "checkIndex", "(IILjava/util/function/BiFunction;)I"⟩
abbrev cJ3_checkFromToIndex_8c36e : ByteArray := prog_30_method_12_code
def yJ3_checkFromToIndex_8c36e : MethodName := ⟨RJ3, "checkFromToIndex", "(IIILjava/util/function/BiFunction;)I"⟩
abbrev cJ3_checkFromIndexSize_8c36e : ByteArray := prog_30_method_13_code
def yJ3_checkFromIndexSize_8c36e : MethodName := ⟨RJ3, "checkFromIndexSize", "(IIILjava/util/function/BiFunction;)I"⟩
def RL : String := "CopyDebtsLaw"
abbrev cL_feeds : ByteArray := method_2_code
def yL_feeds : MethodName := ⟨RL, "feeds", "(LCopyDebts;Ljava/lang/String;)Z"⟩
abbrev cL_tell : ByteArray := method_3_code
def yL_tell : MethodName := ⟨RL, "tell", "(LCopyDebts;Ljava/lang/String;)I"⟩
abbrev cL_calls : ByteArray := method_4_code
def yL_calls : MethodName := ⟨RL, "calls", "(LCopyDebts;IIII)J"⟩
abbrev cL_thrown : ByteArray := method_5_code
def yL_thrown : MethodName := ⟨RL, "thrown", "(LCopyDebts;IIII)I"⟩
abbrev cL_isLike : ByteArray := method_6_code
def yL_isLike : MethodName := ⟨RL, "isLike", "(LCopyDebts;LCopyDebtsLaw$Memory;)Z"⟩
abbrev cL_act : ByteArray := method_7_code
def yL_act : MethodName := ⟨RL, "act", "(LCopyDebts;LCopyDebtsLaw$Memory;LCopyDebtsLaw$Draws;)Z"⟩
abbrev cL_moves : ByteArray := method_8_code
def yL_moves : MethodName := ⟨RL, "moves", "(LCopyDebts;LCopyDebtsLaw$Memory;LCopyDebtsLaw$Draws;I)Z"⟩
abbrev cL_rows : ByteArray := method_9_code
def yL_rows : MethodName := ⟨RL, "rows", "(LCopyDebts;LCopyDebtsLaw$Memory;IIII)Z"⟩
abbrev cL_debts : ByteArray := method_10_code
def yL_debts : MethodName := ⟨RL, "debts", "(LCopyDebts;LCopyDebtsLaw$Memory;)Z"⟩
abbrev cL_goesOn : ByteArray := method_11_code
def yL_goesOn : MethodName := ⟨RL, "goesOn", "(LCopyDebtsLaw$Place;LCopyDebtsLaw$Place;)Z"⟩
abbrev cL_isText : ByteArray := method_12_code
def yL_isText : MethodName := ⟨RL, "isText", "(LCopyDebts;Ljava/lang/StringBuilder;)Z"⟩
abbrev cL_values : ByteArray := method_13_code
def yL_values : MethodName := ⟨RL, "values", "(LCopyDebts;LCopyDebtsLaw$Memory;LCopyDebtsLaw$Draws;)Z"⟩
abbrev cL_law : ByteArray := code
def yL_law : MethodName := ⟨RL, "law", "([I)Z"⟩
abbrev vwCl : List vw_C := [(RX0, TX0, 4), (RX1, TX1, 3), (RX2, TX2, 9), (RX3, TX3, 14), (RX4, TX4, 2), (RX5, TX5, 6), (RX6, TX6, 2), (RX7, TX7, 7), (RX8, TX8, 5), (RJ0, TJ0, 4), (RJ4, TJ4, 4)]
