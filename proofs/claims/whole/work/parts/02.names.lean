-- names of classes, fields, methods: printed text of the claim; words of the tables by their places
def RX0 : String := "SaltFarm$Border"
def TX0 : u_T := fun k => match k with
  | 0 => ("SaltFarm$Border", "one", "I", true)
  | 1 => ("SaltFarm$Border", "other", "I", true)
  | 2 => ("SaltFarm$Border", "risk", "I", true)
  | _ => ("SaltFarm$Border", "guards", "I", false)
def tyX0 : Nat → FieldType := fun k => match k with
  | 0 => .int
  | 1 => .int
  | 2 => .int
  | _ => .int
abbrev wsX00 : List Cond := u_ws RX0 TX0 4
theorem nmX0 : ∀ a, a < 4 → ∀ b, b < 4 → a ≠ b → (TX0 a).2.1 ≠ (TX0 b).2.1 := by decide +kernel
theorem tyX0_ok : ∀ k, k < 4 → parseFieldDescriptor (TX0 k).2.2.1 = some (tyX0 k) := by decide +kernel
abbrev cX0_init : ByteArray := prog_2_method_1_code
def yX0_init : MethodName := ⟨RX0, "<init>", "(III)V"⟩
def RX1 : String := "SaltFarm$Edict"
def TX1 : u_T := fun k => match k with
  | 0 => ("SaltFarm$Edict", "province", "I", true)
  | 1 => ("SaltFarm$Edict", "year", "I", true)
  | _ => ("SaltFarm$Edict", "code", "[I", true)
def tyX1 : Nat → FieldType := fun k => match k with
  | 0 => .int
  | 1 => .int
  | _ => .array .int
abbrev wsX10 : List Cond := u_ws RX1 TX1 3
theorem nmX1 : ∀ a, a < 3 → ∀ b, b < 3 → a ≠ b → (TX1 a).2.1 ≠ (TX1 b).2.1 := by decide +kernel
theorem tyX1_ok : ∀ k, k < 3 → parseFieldDescriptor (TX1 k).2.2.1 = some (tyX1 k) := by decide +kernel
abbrev cX1_init : ByteArray := prog_3_method_1_code
def yX1_init : MethodName := ⟨RX1, "<init>", "(II[I)V"⟩
def RX2 : String := "SaltFarm$Law"
def TX2 : u_T := fun k => match k with
  | 0 => ("SaltFarm$Law", "edicts", "[LSaltFarm$Edict;", true)
  | 1 => ("SaltFarm$Law", "reckoner", "LSaltFarm$Reckoner;", true)
  | _ => ("SaltFarm$Law", "size", "I", false)
def tyX2 : Nat → FieldType := fun k => match k with
  | 0 => .array (.object "SaltFarm$Edict")
  | 1 => .object "SaltFarm$Reckoner"
  | _ => .int
abbrev wsX20 : List Cond := u_ws RX2 TX2 3
theorem nmX2 : ∀ a, a < 3 → ∀ b, b < 3 → a ≠ b → (TX2 a).2.1 ≠ (TX2 b).2.1 := by decide +kernel
theorem tyX2_ok : ∀ k, k < 3 → parseFieldDescriptor (TX2 k).2.2.1 = some (tyX2 k) := by decide +kernel
abbrev cX2_init : ByteArray := prog_4_method_1_code
def yX2_init : MethodName := ⟨RX2, "<init>", "()V"⟩
abbrev cX2_isFull : ByteArray := prog_4_method_2_code
def yX2_isFull : MethodName := ⟨RX2, "isFull", "()Z"⟩
abbrev cX2_add : ByteArray := prog_4_method_3_code
def yX2_add : MethodName := ⟨RX2, "add", "(LSaltFarm$Edict;)I"⟩
abbrev cX2_numberInForce : ByteArray := prog_4_method_4_code
def yX2_numberInForce : MethodName := ⟨RX2, "numberInForce", "(II)I"⟩
abbrev cX2_learn : ByteArray := prog_4_method_5_code
def yX2_learn : MethodName := ⟨RX2, "learn", "(LSaltFarm$Province;II)V"⟩
abbrev cX2_learnYear : ByteArray := prog_4_method_6_code
def yX2_learnYear : MethodName := ⟨RX2, "learnYear", "(LSaltFarm$Province;II)V"⟩
def RX3 : String := "SaltFarm$Market"
def TX3 : u_T := fun k => match k with
  | 0 => ("SaltFarm$Market", "prices", "[I", true)
  | 1 => ("SaltFarm$Market", "duePounds", "[J", true)
  | 2 => ("SaltFarm$Market", "restPounds", "[J", true)
  | 3 => ("SaltFarm$Market", "offers", "[I", true)
  | 4 => ("SaltFarm$Market", "tollsTo", "[I", true)
  | 5 => ("SaltFarm$Market", "way", "[I", true)
  | 6 => ("SaltFarm$Market", "ones", "[I", true)
  | 7 => ("SaltFarm$Market", "others", "[I", true)
  | 8 => ("SaltFarm$Market", "tolls", "[I", true)
  | 9 => ("SaltFarm$Market", "provinceCount", "I", false)
  | 10 => ("SaltFarm$Market", "borderCount", "I", false)
  | _ => ("SaltFarm$Market", "wayLength", "I", false)
def tyX3 : Nat → FieldType := fun k => match k with
  | 0 => .array .int
  | 1 => .array .long
  | 2 => .array .long
  | 3 => .array .int
  | 4 => .array .int
  | 5 => .array .int
  | 6 => .array .int
  | 7 => .array .int
  | 8 => .array .int
  | 9 => .int
  | 10 => .int
  | _ => .int
abbrev wsX30 : List Cond := u_ws RX3 TX3 12
theorem nmX3 : ∀ a, a < 12 → ∀ b, b < 12 → a ≠ b → (TX3 a).2.1 ≠ (TX3 b).2.1 := by decide +kernel
theorem tyX3_ok : ∀ k, k < 12 → parseFieldDescriptor (TX3 k).2.2.1 = some (tyX3 k) := by decide +kernel
abbrev cX3_init : ByteArray := prog_5_method_1_code
def yX3_init : MethodName := ⟨RX3, "<init>", "()V"⟩
abbrev cX3_seat : ByteArray := prog_5_method_2_code
def yX3_seat : MethodName := ⟨RX3, "seat", "(ILSaltFarm$Province;I)V"⟩
abbrev cX3_join : ByteArray := prog_5_method_3_code
def yX3_join : MethodName := ⟨RX3, "join", "(IIII)V"⟩
abbrev cX3_settle : ByteArray := prog_5_method_4_code
def yX3_settle : MethodName := ⟨RX3, "settle", "()V"⟩
abbrev cX3_leastCost : ByteArray := prog_5_method_5_code
def yX3_leastCost : MethodName := ⟨RX3, "leastCost", "(I)I"⟩
abbrev cX3_sourceOf : ByteArray := prog_5_method_6_code
def yX3_sourceOf : MethodName := ⟨RX3, "sourceOf", "(I)I"⟩
abbrev cX3_costBetween : ByteArray := prog_5_method_7_code
def yX3_costBetween : MethodName := ⟨RX3, "costBetween", "(II)I"⟩
abbrev cX3_takenOf : ByteArray := prog_5_method_8_code
def yX3_takenOf : MethodName := ⟨RX3, "takenOf", "(I)J"⟩
abbrev cX3_takenInAll : ByteArray := prog_5_method_9_code
def yX3_takenInAll : MethodName := ⟨RX3, "takenInAll", "()J"⟩
abbrev cX3_lostInAll : ByteArray := prog_5_method_10_code
def yX3_lostInAll : MethodName := ⟨RX3, "lostInAll", "()J"⟩
abbrev cX3_carriedOver : ByteArray := prog_5_method_11_code
def yX3_carriedOver : MethodName := ⟨RX3, "carriedOver", "(I)J"⟩
abbrev cX3_trace : ByteArray := prog_5_method_12_code
def yX3_trace : MethodName := ⟨RX3, "trace", "(I)V"⟩
abbrev cX3_borderOfWay : ByteArray := prog_5_method_13_code
def yX3_borderOfWay : MethodName := ⟨RX3, "borderOfWay", "(I)I"⟩
abbrev cX3_firstOnward : ByteArray := prog_5_method_14_code
def yX3_firstOnward : MethodName := ⟨RX3, "firstOnward", "(I)I"⟩
abbrev cX3_measureTo : ByteArray := prog_5_method_15_code
def yX3_measureTo : MethodName := ⟨RX3, "measureTo", "(I)V"⟩
abbrev cX3_spread : ByteArray := prog_5_method_16_code
def yX3_spread : MethodName := ⟨RX3, "spread", "([II)V"⟩
def RX4 : String := "SaltFarm$Parser"
def TX4 : u_T := fun k => match k with
  | 0 => ("SaltFarm$Parser", "list", "LSaltFarm$Tokens;", true)
  | 1 => ("SaltFarm$Parser", "code", "[I", true)
  | 2 => ("SaltFarm$Parser", "size", "I", false)
  | 3 => ("SaltFarm$Parser", "at", "I", false)
  | 4 => ("SaltFarm$Parser", "signs", "I", false)
  | 5 => ("SaltFarm$Parser", "fault", "I", false)
  | _ => ("SaltFarm$Parser", "place", "I", false)
def tyX4 : Nat → FieldType := fun k => match k with
  | 0 => .object "SaltFarm$Tokens"
  | 1 => .array .int
  | 2 => .int
  | 3 => .int
  | 4 => .int
  | 5 => .int
  | _ => .int
abbrev wsX40 : List Cond := u_ws RX4 TX4 7
theorem nmX4 : ∀ a, a < 7 → ∀ b, b < 7 → a ≠ b → (TX4 a).2.1 ≠ (TX4 b).2.1 := by decide +kernel
theorem tyX4_ok : ∀ k, k < 7 → parseFieldDescriptor (TX4 k).2.2.1 = some (tyX4 k) := by decide +kernel
abbrev cX4_init : ByteArray := prog_6_method_1_code
def yX4_init : MethodName := ⟨RX4, "<init>", "()V"⟩
abbrev cX4_reads : ByteArray := prog_6_method_2_code
def yX4_reads : MethodName := ⟨RX4, "reads", "([BI)Z"⟩
abbrev cX4_copyOfCode : ByteArray := prog_6_method_3_code
def yX4_copyOfCode : MethodName := ⟨RX4, "copyOfCode", "()[I"⟩
abbrev cX4_readsLine : ByteArray := prog_6_method_4_code
def yX4_readsLine : MethodName := ⟨RX4, "readsLine", "(I)Z"⟩
abbrev cX4_readsTests : ByteArray := prog_6_method_5_code
def yX4_readsTests : MethodName := ⟨RX4, "readsTests", "()Z"⟩
abbrev cX4_readsSum : ByteArray := prog_6_method_6_code
def yX4_readsSum : MethodName := ⟨RX4, "readsSum", "(I)Z"⟩
abbrev cX4_readsTerm : ByteArray := prog_6_method_7_code
def yX4_readsTerm : MethodName := ⟨RX4, "readsTerm", "(I)Z"⟩
abbrev cX4_readsOne : ByteArray := prog_6_method_8_code
def yX4_readsOne : MethodName := ⟨RX4, "readsOne", "(I)Z"⟩
abbrev cX4_passesSign : ByteArray := prog_6_method_9_code
def yX4_passesSign : MethodName := ⟨RX4, "passesSign", "()Z"⟩
abbrev cX4_faultAsOne : ByteArray := prog_6_method_10_code
def yX4_faultAsOne : MethodName := ⟨RX4, "faultAsOne", "(I)I"⟩
abbrev cX4_token : ByteArray := prog_6_method_11_code
def yX4_token : MethodName := ⟨RX4, "token", "()I"⟩
abbrev cX4_fail : ByteArray := prog_6_method_12_code
def yX4_fail : MethodName := ⟨RX4, "fail", "(I)Z"⟩
abbrev cX4_write : ByteArray := prog_6_method_13_code
def yX4_write : MethodName := ⟨RX4, "write", "(I)V"⟩
def RX5 : String := "SaltFarm$Province"
def TX5 : u_T := fun k => match k with
  | 0 => ("SaltFarm$Province", "mouths", "I", false)
  | 1 => ("SaltFarm$Province", "need", "I", false)
  | 2 => ("SaltFarm$Province", "prices", "[I", true)
  | 3 => ("SaltFarm$Province", "duties", "[I", true)
  | _ => ("SaltFarm$Province", "yearsKnown", "I", false)
def tyX5 : Nat → FieldType := fun k => match k with
  | 0 => .int
  | 1 => .int
  | 2 => .array .int
  | 3 => .array .int
  | _ => .int
abbrev wsX50 : List Cond := u_ws RX5 TX5 5
theorem nmX5 : ∀ a, a < 5 → ∀ b, b < 5 → a ≠ b → (TX5 a).2.1 ≠ (TX5 b).2.1 := by decide +kernel
theorem tyX5_ok : ∀ k, k < 5 → parseFieldDescriptor (TX5 k).2.2.1 = some (tyX5 k) := by decide +kernel
abbrev cX5_init : ByteArray := prog_7_method_1_code
def yX5_init : MethodName := ⟨RX5, "<init>", "(II)V"⟩
abbrev cX5_forgetFrom : ByteArray := prog_7_method_2_code
def yX5_forgetFrom : MethodName := ⟨RX5, "forgetFrom", "(I)V"⟩
def RX6 : String := "SaltFarm$Reckoner"
def TX6 : u_T := fun k => match k with
  | 0 => ("SaltFarm$Reckoner", "waiting", "[I", true)
  | 1 => ("SaltFarm$Reckoner", "size", "I", false)
  | 2 => ("SaltFarm$Reckoner", "year", "I", false)
  | 3 => ("SaltFarm$Reckoner", "mouths", "I", false)
  | 4 => ("SaltFarm$Reckoner", "need", "I", false)
  | _ => ("SaltFarm$Reckoner", "old", "I", false)
def tyX6 : Nat → FieldType := fun k => match k with
  | 0 => .array .int
  | 1 => .int
  | 2 => .int
  | 3 => .int
  | 4 => .int
  | _ => .int
abbrev wsX60 : List Cond := u_ws RX6 TX6 6
theorem nmX6 : ∀ a, a < 6 → ∀ b, b < 6 → a ≠ b → (TX6 a).2.1 ≠ (TX6 b).2.1 := by decide +kernel
theorem tyX6_ok : ∀ k, k < 6 → parseFieldDescriptor (TX6 k).2.2.1 = some (tyX6 k) := by decide +kernel
abbrev cX6_init : ByteArray := prog_8_method_1_code
def yX6_init : MethodName := ⟨RX6, "<init>", "()V"⟩
abbrev cX6_tell : ByteArray := prog_8_method_2_code
def yX6_tell : MethodName := ⟨RX6, "tell", "([II)I"⟩
abbrev cX6_step : ByteArray := prog_8_method_3_code
def yX6_step : MethodName := ⟨RX6, "step", "(I)Z"⟩
abbrev cX6_named : ByteArray := prog_8_method_4_code
def yX6_named : MethodName := ⟨RX6, "named", "(I)I"⟩
abbrev cX6_compares : ByteArray := prog_8_method_5_code
def yX6_compares : MethodName := ⟨RX6, "compares", "(III)Z"⟩
abbrev cX6_joined : ByteArray := prog_8_method_6_code
def yX6_joined : MethodName := ⟨RX6, "joined", "(IJJ)J"⟩
abbrev cX6_push : ByteArray := prog_8_method_7_code
def yX6_push : MethodName := ⟨RX6, "push", "(I)V"⟩
abbrev cX6_pop : ByteArray := prog_8_method_8_code
def yX6_pop : MethodName := ⟨RX6, "pop", "()I"⟩
def RX7 : String := "SaltFarm$Store"
def TX7 : u_T := fun k => match k with
  | 0 => ("SaltFarm$Store", "had", "I", false)
  | 1 => ("SaltFarm$Store", "brought", "I", false)
  | 2 => ("SaltFarm$Store", "sold", "I", false)
  | 3 => ("SaltFarm$Store", "counted", "I", false)
  | 4 => ("SaltFarm$Store", "isCounted", "Z", false)
  | _ => ("SaltFarm$Store", "missingBefore", "J", false)
def tyX7 : Nat → FieldType := fun k => match k with
  | 0 => .int
  | 1 => .int
  | 2 => .int
  | 3 => .int
  | 4 => .boolean
  | _ => .long
abbrev wsX70 : List Cond := u_ws RX7 TX7 6
theorem nmX7 : ∀ a, a < 6 → ∀ b, b < 6 → a ≠ b → (TX7 a).2.1 ≠ (TX7 b).2.1 := by decide +kernel
theorem tyX7_ok : ∀ k, k < 6 → parseFieldDescriptor (TX7 k).2.2.1 = some (tyX7 k) := by decide +kernel
abbrev cX7_init : ByteArray := prog_9_method_1_code
def yX7_init : MethodName := ⟨RX7, "<init>", "(I)V"⟩
abbrev cX7_missingThisYear : ByteArray := prog_9_method_2_code
def yX7_missingThisYear : MethodName := ⟨RX7, "missingThisYear", "()I"⟩
abbrev cX7_closeYear : ByteArray := prog_9_method_3_code
def yX7_closeYear : MethodName := ⟨RX7, "closeYear", "()V"⟩
def RX8 : String := "SaltFarm$Tape"
def TX8 : u_T := fun k => match k with
  | 0 => ("SaltFarm$Tape", "bytes", "[B", true)
  | _ => ("SaltFarm$Tape", "length", "I", false)
def tyX8 : Nat → FieldType := fun k => match k with
  | 0 => .array .byte
  | _ => .int
abbrev wsX80 : List Cond := u_ws RX8 TX8 2
theorem nmX8 : ∀ a, a < 2 → ∀ b, b < 2 → a ≠ b → (TX8 a).2.1 ≠ (TX8 b).2.1 := by decide +kernel
theorem tyX8_ok : ∀ k, k < 2 → parseFieldDescriptor (TX8 k).2.2.1 = some (tyX8 k) := by decide +kernel
abbrev cX8_init : ByteArray := prog_10_method_1_code
def yX8_init : MethodName := ⟨RX8, "<init>", "()V"⟩
abbrev cX8_hasRoom : ByteArray := prog_10_method_2_code
def yX8_hasRoom : MethodName := ⟨RX8, "hasRoom", "()Z"⟩
abbrev cX8_append : ByteArray := prog_10_method_3_code
def yX8_append : MethodName := ⟨RX8, "append", "(I)V"⟩
def RX9 : String := "SaltFarm$Tokens"
def TX9 : u_T := fun k => match k with
  | 0 => ("SaltFarm$Tokens", "tokens", "[I", true)
  | 1 => ("SaltFarm$Tokens", "places", "[I", true)
  | _ => ("SaltFarm$Tokens", "size", "I", false)
def tyX9 : Nat → FieldType := fun k => match k with
  | 0 => .array .int
  | 1 => .array .int
  | _ => .int
abbrev wsX90 : List Cond := u_ws RX9 TX9 3
theorem nmX9 : ∀ a, a < 3 → ∀ b, b < 3 → a ≠ b → (TX9 a).2.1 ≠ (TX9 b).2.1 := by decide +kernel
theorem tyX9_ok : ∀ k, k < 3 → parseFieldDescriptor (TX9 k).2.2.1 = some (tyX9 k) := by decide +kernel
abbrev cX9_init : ByteArray := prog_11_method_1_code
def yX9_init : MethodName := ⟨RX9, "<init>", "()V"⟩
abbrev cX9_scan : ByteArray := prog_11_method_2_code
def yX9_scan : MethodName := ⟨RX9, "scan", "([BI)V"⟩
abbrev cX9_add : ByteArray := prog_11_method_3_code
def yX9_add : MethodName := ⟨RX9, "add", "(II)V"⟩
abbrev cX9_endOfRun : ByteArray := prog_11_method_4_code
def yX9_endOfRun : MethodName := ⟨RX9, "endOfRun", "([BII)I"⟩
abbrev cX9_tokenOf : ByteArray := prog_11_method_5_code
def yX9_tokenOf : MethodName := ⟨RX9, "tokenOf", "([BII)I"⟩
abbrev cX9_numberOf : ByteArray := prog_11_method_6_code
def yX9_numberOf : MethodName := ⟨RX9, "numberOf", "([BII)I"⟩
abbrev cX9_wordOf : ByteArray := prog_11_method_7_code
def yX9_wordOf : MethodName := ⟨RX9, "wordOf", "([BII)I"⟩
abbrev cX9_nameOf : ByteArray := prog_11_method_8_code
def yX9_nameOf : MethodName := ⟨RX9, "nameOf", "([BII)I"⟩
abbrev cX9_spells : ByteArray := prog_11_method_9_code
def yX9_spells : MethodName := ⟨RX9, "spells", "([BIILjava/lang/String;)Z"⟩
abbrev cX9_signOf : ByteArray := prog_11_method_10_code
def yX9_signOf : MethodName := ⟨RX9, "signOf", "(B)I"⟩
abbrev cX9_isLetter : ByteArray := prog_11_method_11_code
def yX9_isLetter : MethodName := ⟨RX9, "isLetter", "(B)Z"⟩
abbrev cX9_isDigit : ByteArray := prog_11_method_12_code
def yX9_isDigit : MethodName := ⟨RX9, "isDigit", "(B)Z"⟩
def RX10 : String := "SaltFarm$Watch"
def TX10 : u_T := fun k => match k with
  | 0 => ("SaltFarm$Watch", "posts", "[I", true)
  | 1 => ("SaltFarm$Watch", "standing", "[I", true)
  | 2 => ("SaltFarm$Watch", "borderCount", "I", false)
  | _ => ("SaltFarm$Watch", "guards", "I", false)
def tyX10 : Nat → FieldType := fun k => match k with
  | 0 => .array .int
  | 1 => .array .int
  | 2 => .int
  | _ => .int
abbrev wsX100 : List Cond := u_ws RX10 TX10 4
theorem nmX10 : ∀ a, a < 4 → ∀ b, b < 4 → a ≠ b → (TX10 a).2.1 ≠ (TX10 b).2.1 := by decide +kernel
theorem tyX10_ok : ∀ k, k < 4 → parseFieldDescriptor (TX10 k).2.2.1 = some (tyX10 k) := by decide +kernel
abbrev cX10_init : ByteArray := prog_12_method_1_code
def yX10_init : MethodName := ⟨RX10, "<init>", "()V"⟩
abbrev cX10_lay : ByteArray := prog_12_method_2_code
def yX10_lay : MethodName := ⟨RX10, "lay", "(LSaltFarm$Market;II)J"⟩
abbrev cX10_standingOn : ByteArray := prog_12_method_3_code
def yX10_standingOn : MethodName := ⟨RX10, "standingOn", "(I)I"⟩
abbrev cX10_charge : ByteArray := prog_12_method_4_code
def yX10_charge : MethodName := ⟨RX10, "charge", "(LSaltFarm$Market;I)V"⟩
abbrev cX10_keep : ByteArray := prog_12_method_5_code
def yX10_keep : MethodName := ⟨RX10, "keep", "()V"⟩
abbrev cX10_shift : ByteArray := prog_12_method_6_code
def yX10_shift : MethodName := ⟨RX10, "shift", "()Z"⟩
def RX11 : String := "SaltFarm"
def TX11 : u_T := fun k => match k with
  | 0 => ("SaltFarm", "provinces", "[LSaltFarm$Province;", true)
  | 1 => ("SaltFarm", "borders", "[LSaltFarm$Border;", true)
  | 2 => ("SaltFarm", "stores", "[LSaltFarm$Store;", true)
  | 3 => ("SaltFarm", "tape", "LSaltFarm$Tape;", true)
  | 4 => ("SaltFarm", "parser", "LSaltFarm$Parser;", true)
  | 5 => ("SaltFarm", "law", "LSaltFarm$Law;", true)
  | 6 => ("SaltFarm", "market", "LSaltFarm$Market;", true)
  | 7 => ("SaltFarm", "watch", "LSaltFarm$Watch;", true)
  | 8 => ("SaltFarm", "provinceCount", "I", false)
  | 9 => ("SaltFarm", "borderCount", "I", false)
  | 10 => ("SaltFarm", "storeCount", "I", false)
  | 11 => ("SaltFarm", "thisYear", "I", false)
  | 12 => ("SaltFarm", "guardWeight", "I", false)
  | 13 => ("SaltFarm", "latestTrouble", "I", false)
  | 14 => ("SaltFarm", "latestFault", "I", false)
  | _ => ("SaltFarm", "faultPlace", "I", false)
def tyX11 : Nat → FieldType := fun k => match k with
  | 0 => .array (.object "SaltFarm$Province")
  | 1 => .array (.object "SaltFarm$Border")
  | 2 => .array (.object "SaltFarm$Store")
  | 3 => .object "SaltFarm$Tape"
  | 4 => .object "SaltFarm$Parser"
  | 5 => .object "SaltFarm$Law"
  | 6 => .object "SaltFarm$Market"
  | 7 => .object "SaltFarm$Watch"
  | 8 => .int
  | 9 => .int
  | 10 => .int
  | 11 => .int
  | 12 => .int
  | 13 => .int
  | 14 => .int
  | _ => .int
abbrev wsX110 : List Cond := u_ws RX11 TX11 16
theorem nmX11 : ∀ a, a < 16 → ∀ b, b < 16 → a ≠ b → (TX11 a).2.1 ≠ (TX11 b).2.1 := by decide +kernel
theorem tyX11_ok : ∀ k, k < 16 → parseFieldDescriptor (TX11 k).2.2.1 = some (tyX11 k) := by decide +kernel
abbrev cX11_init : ByteArray := prog_1_method_1_code
def yX11_init : MethodName := ⟨RX11, "<init>", "()V"⟩
abbrev cX11_province : ByteArray := prog_1_method_2_code
def yX11_province : MethodName := ⟨RX11, "province", "(II)I"⟩
abbrev cX11_people : ByteArray := prog_1_method_3_code
def yX11_people : MethodName := ⟨RX11, "people", "(III)Z"⟩
abbrev cX11_border : ByteArray := prog_1_method_4_code
def yX11_border : MethodName := ⟨RX11, "border", "(III)I"⟩
abbrev cX11_guard : ByteArray := prog_1_method_5_code
def yX11_guard : MethodName := ⟨RX11, "guard", "(II)Z"⟩
abbrev cX11_weight : ByteArray := prog_1_method_6_code
def yX11_weight : MethodName := ⟨RX11, "weight", "(I)Z"⟩
abbrev cX11_feed : ByteArray := prog_1_method_7_code
def yX11_feed : MethodName := ⟨RX11, "feed", "(IIIII)I"⟩
abbrev cX11_edict : ByteArray := prog_1_method_8_code
def yX11_edict : MethodName := ⟨RX11, "edict", "(III)I"⟩
abbrev cX11_fault : ByteArray := prog_1_method_9_code
def yX11_fault : MethodName := ⟨RX11, "fault", "()I"⟩
abbrev cX11_where : ByteArray := prog_1_method_10_code
def yX11_where : MethodName := ⟨RX11, "where", "()I"⟩
abbrev cX11_force : ByteArray := prog_1_method_11_code
def yX11_force : MethodName := ⟨RX11, "force", "(II)I"⟩
abbrev cX11_price : ByteArray := prog_1_method_12_code
def yX11_price : MethodName := ⟨RX11, "price", "(IIZ)I"⟩
abbrev cX11_brought : ByteArray := prog_1_method_13_code
def yX11_brought : MethodName := ⟨RX11, "brought", "(II)I"⟩
abbrev cX11_cheap : ByteArray := prog_1_method_14_code
def yX11_cheap : MethodName := ⟨RX11, "cheap", "(I)I"⟩
abbrev cX11_source : ByteArray := prog_1_method_15_code
def yX11_source : MethodName := ⟨RX11, "source", "(I)I"⟩
abbrev cX11_taken : ByteArray := prog_1_method_16_code
def yX11_taken : MethodName := ⟨RX11, "taken", "(I)J"⟩
abbrev cX11_crown : ByteArray := prog_1_method_17_code
def yX11_crown : MethodName := ⟨RX11, "crown", "()J"⟩
abbrev cX11_lost : ByteArray := prog_1_method_18_code
def yX11_lost : MethodName := ⟨RX11, "lost", "()J"⟩
abbrev cX11_carried : ByteArray := prog_1_method_19_code
def yX11_carried : MethodName := ⟨RX11, "carried", "(I)J"⟩
abbrev cX11_way : ByteArray := prog_1_method_20_code
def yX11_way : MethodName := ⟨RX11, "way", "(I)I"⟩
abbrev cX11_wayAt : ByteArray := prog_1_method_21_code
def yX11_wayAt : MethodName := ⟨RX11, "wayAt", "(II)I"⟩
abbrev cX11_best : ByteArray := prog_1_method_22_code
def yX11_best : MethodName := ⟨RX11, "best", "(I)J"⟩
abbrev cX11_stand : ByteArray := prog_1_method_23_code
def yX11_stand : MethodName := ⟨RX11, "stand", "(I)I"⟩
abbrev cX11_pass : ByteArray := prog_1_method_24_code
def yX11_pass : MethodName := ⟨RX11, "pass", "()I"⟩
abbrev cX11_store : ByteArray := prog_1_method_25_code
def yX11_store : MethodName := ⟨RX11, "store", "(II)I"⟩
abbrev cX11_moves : ByteArray := prog_1_method_26_code
def yX11_moves : MethodName := ⟨RX11, "moves", "(IIZ)I"⟩
abbrev cX11_counted : ByteArray := prog_1_method_27_code
def yX11_counted : MethodName := ⟨RX11, "counted", "(II)I"⟩
abbrev cX11_missing : ByteArray := prog_1_method_28_code
def yX11_missing : MethodName := ⟨RX11, "missing", "(I)J"⟩
abbrev cX11_worst : ByteArray := prog_1_method_29_code
def yX11_worst : MethodName := ⟨RX11, "worst", "()I"⟩
abbrev cX11_count : ByteArray := prog_1_method_30_code
def yX11_count : MethodName := ⟨RX11, "count", "(I)I"⟩
abbrev cX11_trouble : ByteArray := prog_1_method_31_code
def yX11_trouble : MethodName := ⟨RX11, "trouble", "()I"⟩
abbrev cX11_refuse : ByteArray := prog_1_method_32_code
def yX11_refuse : MethodName := ⟨RX11, "refuse", "(I)I"⟩
abbrev cX11_grant : ByteArray := prog_1_method_33_code
def yX11_grant : MethodName := ⟨RX11, "grant", "(I)I"⟩
abbrev cX11_deny : ByteArray := prog_1_method_34_code
def yX11_deny : MethodName := ⟨RX11, "deny", "(I)Z"⟩
abbrev cX11_allow : ByteArray := prog_1_method_35_code
def yX11_allow : MethodName := ⟨RX11, "allow", "()Z"⟩
abbrev cX11_provinceAt : ByteArray := prog_1_method_36_code
def yX11_provinceAt : MethodName := ⟨RX11, "provinceAt", "(I)LSaltFarm$Province;"⟩
abbrev cX11_borderAt : ByteArray := prog_1_method_37_code
def yX11_borderAt : MethodName := ⟨RX11, "borderAt", "(I)LSaltFarm$Border;"⟩
abbrev cX11_storeAt : ByteArray := prog_1_method_38_code
def yX11_storeAt : MethodName := ⟨RX11, "storeAt", "(I)LSaltFarm$Store;"⟩
abbrev cX11_guardsInAll : ByteArray := prog_1_method_39_code
def yX11_guardsInAll : MethodName := ⟨RX11, "guardsInAll", "()I"⟩
abbrev cX11_survey : ByteArray := prog_1_method_40_code
def yX11_survey : MethodName := ⟨RX11, "survey", "()V"⟩
abbrev cX11_fitsPeople : ByteArray := prog_1_method_41_code
def yX11_fitsPeople : MethodName := ⟨RX11, "fitsPeople", "(II)Z"⟩
abbrev cX11_within : ByteArray := prog_1_method_42_code
def yX11_within : MethodName := ⟨RX11, "within", "(III)Z"⟩
abbrev cX11_bound : ByteArray := prog_1_method_43_code
def yX11_bound : MethodName := ⟨RX11, "bound", "(JII)I"⟩
def RX12 : String := "SaltFarmModel$Edict"
def TX12 : u_T := fun k => match k with
  | 0 => ("SaltFarmModel$Edict", "province", "I", false)
  | 1 => ("SaltFarmModel$Edict", "year", "I", false)
  | 2 => ("SaltFarmModel$Edict", "lines", "I", false)
  | 3 => ("SaltFarmModel$Edict", "items", "I", false)
  | 4 => ("SaltFarmModel$Edict", "isDuty", "[Z", true)
  | 5 => ("SaltFarmModel$Edict", "tests", "[I", true)
  | 6 => ("SaltFarmModel$Edict", "from", "[I", true)
  | 7 => ("SaltFarmModel$Edict", "to", "[I", true)
  | 8 => ("SaltFarmModel$Edict", "sign", "[I", true)
  | _ => ("SaltFarmModel$Edict", "value", "[I", true)
def tyX12 : Nat → FieldType := fun k => match k with
  | 0 => .int
  | 1 => .int
  | 2 => .int
  | 3 => .int
  | 4 => .array .boolean
  | 5 => .array .int
  | 6 => .array .int
  | 7 => .array .int
  | 8 => .array .int
  | _ => .array .int
abbrev wsX120 : List Cond := u_ws RX12 TX12 10
theorem nmX12 : ∀ a, a < 10 → ∀ b, b < 10 → a ≠ b → (TX12 a).2.1 ≠ (TX12 b).2.1 := by decide +kernel
theorem tyX12_ok : ∀ k, k < 10 → parseFieldDescriptor (TX12 k).2.2.1 = some (tyX12 k) := by decide +kernel
abbrev cX12_init : ByteArray := prog_15_method_1_code
def yX12_init : MethodName := ⟨RX12, "<init>", "()V"⟩
abbrev cX12_put : ByteArray := prog_15_method_2_code
def yX12_put : MethodName := ⟨RX12, "put", "(II)V"⟩
def RX13 : String := "SaltFarmModel$Stop"
def TX13 : u_T := fun k => match k with
  | 0 => ("java/lang/Throwable", "cause", "Ljava/lang/Throwable;", false)
  | 1 => ("java/lang/Throwable", "stackTrace", "[Ljava/lang/StackTraceElement;", false)
  | 2 => ("java/lang/Throwable", "suppressedExceptions", "Ljava/util/List;", false)
  | 3 => ("java/lang/Throwable", "detailMessage", "Ljava/lang/String;", false)
  | 4 => ("java/lang/Throwable", "backtrace", "Ljava/lang/Object;", false)
  | 5 => ("java/lang/Throwable", "depth", "I", false)
  | 6 => ("SaltFarmModel$Stop", "kind", "I", false)
  | _ => ("SaltFarmModel$Stop", "place", "I", false)
def tyX13 : Nat → FieldType := fun k => match k with
  | 0 => .object "java/lang/Throwable"
  | 1 => .array (.object "java/lang/StackTraceElement")
  | 2 => .object "java/util/List"
  | 3 => .object "java/lang/String"
  | 4 => .object "java/lang/Object"
  | 5 => .int
  | 6 => .int
  | _ => .int
abbrev wsX130 : List Cond := u_ws RX13 TX13 8
theorem nmX13 : ∀ a, a < 8 → ∀ b, b < 8 → a ≠ b → (TX13 a).2.1 ≠ (TX13 b).2.1 := by decide +kernel
theorem tyX13_ok : ∀ k, k < 8 → parseFieldDescriptor (TX13 k).2.2.1 = some (tyX13 k) := by decide +kernel
abbrev cX13_init : ByteArray := prog_16_method_1_code
def yX13_init : MethodName := ⟨RX13, "<init>", "()V"⟩
def RX14 : String := "SaltFarmModel"
def TX14 : u_T := fun k => match k with
  | 0 => ("SaltFarmModel", "thrown", "I", false)
  | 1 => ("SaltFarmModel", "trouble", "I", false)
  | 2 => ("SaltFarmModel", "where", "I", false)
  | 3 => ("SaltFarmModel", "fault", "I", false)
  | 4 => ("SaltFarmModel", "provinces", "I", false)
  | 5 => ("SaltFarmModel", "borders", "I", false)
  | 6 => ("SaltFarmModel", "year", "I", false)
  | 7 => ("SaltFarmModel", "weight", "I", false)
  | 8 => ("SaltFarmModel", "mouths", "[I", true)
  | 9 => ("SaltFarmModel", "need", "[I", true)
  | 10 => ("SaltFarmModel", "one", "[I", true)
  | 11 => ("SaltFarmModel", "other", "[I", true)
  | 12 => ("SaltFarmModel", "risk", "[I", true)
  | 13 => ("SaltFarmModel", "guards", "[I", true)
  | 14 => ("SaltFarmModel", "edicts", "I", false)
  | 15 => ("SaltFarmModel", "edict", "[LSaltFarmModel$Edict;", true)
  | 16 => ("SaltFarmModel", "spare", "LSaltFarmModel$Edict;", false)
  | 17 => ("SaltFarmModel", "stop", "LSaltFarmModel$Stop;", true)
  | 18 => ("SaltFarmModel", "tape", "[B", true)
  | 19 => ("SaltFarmModel", "taped", "I", false)
  | 20 => ("SaltFarmModel", "size", "I", false)
  | 21 => ("SaltFarmModel", "at", "I", false)
  | 22 => ("SaltFarmModel", "sort", "I", false)
  | 23 => ("SaltFarmModel", "place", "I", false)
  | 24 => ("SaltFarmModel", "mark", "I", false)
  | 25 => ("SaltFarmModel", "number", "I", false)
  | 26 => ("SaltFarmModel", "deep", "I", false)
  | 27 => ("SaltFarmModel", "signs", "I", false)
  | 28 => ("SaltFarmModel", "word", "J", false)
  | 29 => ("SaltFarmModel", "pile", "[I", true)
  | 30 => ("SaltFarmModel", "price", "[I", true)
  | 31 => ("SaltFarmModel", "duty", "[I", true)
  | 32 => ("SaltFarmModel", "far", "[I", true)
  | 33 => ("SaltFarmModel", "source", "[I", true)
  | 34 => ("SaltFarmModel", "way", "[I", true)
  | 35 => ("SaltFarmModel", "wayMany", "I", false)
  | 36 => ("SaltFarmModel", "tried", "[I", true)
  | 37 => ("SaltFarmModel", "best", "[I", true)
  | 38 => ("SaltFarmModel", "bestSum", "J", false)
  | 39 => ("SaltFarmModel", "stands", "I", false)
  | 40 => ("SaltFarmModel", "stores", "I", false)
  | 41 => ("SaltFarmModel", "had", "[I", true)
  | 42 => ("SaltFarmModel", "came", "[I", true)
  | 43 => ("SaltFarmModel", "sold", "[I", true)
  | 44 => ("SaltFarmModel", "counted", "[I", true)
  | 45 => ("SaltFarmModel", "storeIn", "[I", true)
  | _ => ("SaltFarmModel", "missing", "[J", true)
def tyX14 : Nat → FieldType := fun k => match k with
  | 0 => .int
  | 1 => .int
  | 2 => .int
  | 3 => .int
  | 4 => .int
  | 5 => .int
  | 6 => .int
  | 7 => .int
  | 8 => .array .int
  | 9 => .array .int
  | 10 => .array .int
  | 11 => .array .int
  | 12 => .array .int
  | 13 => .array .int
  | 14 => .int
  | 15 => .array (.object "SaltFarmModel$Edict")
  | 16 => .object "SaltFarmModel$Edict"
  | 17 => .object "SaltFarmModel$Stop"
  | 18 => .array .byte
  | 19 => .int
  | 20 => .int
  | 21 => .int
  | 22 => .int
  | 23 => .int
  | 24 => .int
  | 25 => .int
  | 26 => .int
  | 27 => .int
  | 28 => .long
  | 29 => .array .int
  | 30 => .array .int
  | 31 => .array .int
  | 32 => .array .int
  | 33 => .array .int
  | 34 => .array .int
  | 35 => .int
  | 36 => .array .int
  | 37 => .array .int
  | 38 => .long
  | 39 => .int
  | 40 => .int
  | 41 => .array .int
  | 42 => .array .int
  | 43 => .array .int
  | 44 => .array .int
  | 45 => .array .int
  | _ => .array .long
abbrev wsX140 : List Cond := u_ws RX14 TX14 47
theorem nmX14 : ∀ a, a < 47 → ∀ b, b < 47 → a ≠ b → (TX14 a).2.1 ≠ (TX14 b).2.1 := by decide +kernel
theorem tyX14_ok : ∀ k, k < 47 → parseFieldDescriptor (TX14 k).2.2.1 = some (tyX14 k) := by decide +kernel
abbrev cX14_init : ByteArray := prog_14_method_1_code
def yX14_init : MethodName := ⟨RX14, "<init>", "()V"⟩
abbrev cX14_refused : ByteArray := prog_14_method_3_code
def yX14_refused : MethodName := ⟨RX14, "refused", "(I)I"⟩
abbrev cX14_denied : ByteArray := prog_14_method_4_code
def yX14_denied : MethodName := ⟨RX14, "denied", "(I)Z"⟩
abbrev cX14_done : ByteArray := prog_14_method_5_code
def yX14_done : MethodName := ⟨RX14, "done", "(I)I"⟩
abbrev cX14_granted : ByteArray := prog_14_method_6_code
def yX14_granted : MethodName := ⟨RX14, "granted", "()Z"⟩
abbrev cX14_in : ByteArray := prog_14_method_7_code
def yX14_in : MethodName := ⟨RX14, "in", "(III)Z"⟩
abbrev cX14_isProvince : ByteArray := prog_14_method_8_code
def yX14_isProvince : MethodName := ⟨RX14, "isProvince", "(I)Z"⟩
abbrev cX14_isBorder : ByteArray := prog_14_method_9_code
def yX14_isBorder : MethodName := ⟨RX14, "isBorder", "(I)Z"⟩
abbrev cX14_province : ByteArray := prog_14_method_10_code
def yX14_province : MethodName := ⟨RX14, "province", "(II)I"⟩
abbrev cX14_people : ByteArray := prog_14_method_11_code
def yX14_people : MethodName := ⟨RX14, "people", "(III)Z"⟩
abbrev cX14_border : ByteArray := prog_14_method_12_code
def yX14_border : MethodName := ⟨RX14, "border", "(III)I"⟩
abbrev cX14_guard : ByteArray := prog_14_method_13_code
def yX14_guard : MethodName := ⟨RX14, "guard", "(II)Z"⟩
abbrev cX14_weight : ByteArray := prog_14_method_14_code
def yX14_weight : MethodName := ⟨RX14, "weight", "(I)Z"⟩
abbrev cX14_stop : ByteArray := prog_14_method_15_code
def yX14_stop : MethodName := ⟨RX14, "stop", "(I)LSaltFarmModel$Stop;"⟩
abbrev cX14_byteAt : ByteArray := prog_14_method_16_code
def yX14_byteAt : MethodName := ⟨RX14, "byteAt", "(I)I"⟩
abbrev cX14_isLetter : ByteArray := prog_14_method_17_code
def yX14_isLetter : MethodName := ⟨RX14, "isLetter", "(I)Z"⟩
abbrev cX14_isDigit : ByteArray := prog_14_method_18_code
def yX14_isDigit : MethodName := ⟨RX14, "isDigit", "(I)Z"⟩
abbrev cX14_wordOf : ByteArray := prog_14_method_19_code
def yX14_wordOf : MethodName := ⟨RX14, "wordOf", "(Ljava/lang/String;)J"⟩
abbrev cX14_next : ByteArray := prog_14_method_20_code
def yX14_next : MethodName := ⟨RX14, "next", "()V"⟩
abbrev cX14_isWord : ByteArray := prog_14_method_21_code
def yX14_isWord : MethodName := ⟨RX14, "isWord", "(Ljava/lang/String;)Z"⟩
abbrev cX14_is : ByteArray := prog_14_method_22_code
def yX14_is : MethodName := ⟨RX14, "is", "(I)Z"⟩
abbrev cX14_nameHere : ByteArray := prog_14_method_23_code
def yX14_nameHere : MethodName := ⟨RX14, "nameHere", "()I"⟩
abbrev cX14_reads : ByteArray := prog_14_method_24_code
def yX14_reads : MethodName := ⟨RX14, "reads", "()V"⟩
abbrev cX14_readTest : ByteArray := prog_14_method_25_code
def yX14_readTest : MethodName := ⟨RX14, "readTest", "(I)V"⟩
abbrev cX14_sign : ByteArray := prog_14_method_26_code
def yX14_sign : MethodName := ⟨RX14, "sign", "()V"⟩
abbrev cX14_readSum : ByteArray := prog_14_method_27_code
def yX14_readSum : MethodName := ⟨RX14, "readSum", "()V"⟩
abbrev cX14_readTerm : ByteArray := prog_14_method_28_code
def yX14_readTerm : MethodName := ⟨RX14, "readTerm", "()V"⟩
abbrev cX14_readOne : ByteArray := prog_14_method_29_code
def yX14_readOne : MethodName := ⟨RX14, "readOne", "()V"⟩
abbrev cX14_feed : ByteArray := prog_14_method_30_code
def yX14_feed : MethodName := ⟨RX14, "feed", "(IIIII)I"⟩
abbrev cX14_edict : ByteArray := prog_14_method_31_code
def yX14_edict : MethodName := ⟨RX14, "edict", "(III)I"⟩
abbrev cX14_fault : ByteArray := prog_14_method_32_code
def yX14_fault : MethodName := ⟨RX14, "fault", "()I"⟩
abbrev cX14_where : ByteArray := prog_14_method_33_code
def yX14_where : MethodName := ⟨RX14, "where", "()I"⟩
abbrev cX14_forceOf : ByteArray := prog_14_method_34_code
def yX14_forceOf : MethodName := ⟨RX14, "forceOf", "(II)I"⟩
abbrev cX14_force : ByteArray := prog_14_method_35_code
def yX14_force : MethodName := ⟨RX14, "force", "(II)I"⟩
abbrev cX14_bound : ByteArray := prog_14_method_36_code
def yX14_bound : MethodName := ⟨RX14, "bound", "(J)I"⟩
abbrev cX14_both : ByteArray := prog_14_method_37_code
def yX14_both : MethodName := ⟨RX14, "both", "(IJJ)I"⟩
abbrev cX14_tells : ByteArray := prog_14_method_38_code
def yX14_tells : MethodName := ⟨RX14, "tells", "(LSaltFarmModel$Edict;IIII)I"⟩
abbrev cX14_priceOf : ByteArray := prog_14_method_39_code
def yX14_priceOf : MethodName := ⟨RX14, "priceOf", "(IIZ)I"⟩
abbrev cX14_price : ByteArray := prog_14_method_40_code
def yX14_price : MethodName := ⟨RX14, "price", "(IIZ)I"⟩
abbrev cX14_prices : ByteArray := prog_14_method_41_code
def yX14_prices : MethodName := ⟨RX14, "prices", "()V"⟩
abbrev cX14_costOf : ByteArray := prog_14_method_42_code
def yX14_costOf : MethodName := ⟨RX14, "costOf", "(II)I"⟩
abbrev cX14_ways : ByteArray := prog_14_method_43_code
def yX14_ways : MethodName := ⟨RX14, "ways", "([I)V"⟩
abbrev cX14_now : ByteArray := prog_14_method_44_code
def yX14_now : MethodName := ⟨RX14, "now", "()V"⟩
abbrev cX14_brought : ByteArray := prog_14_method_45_code
def yX14_brought : MethodName := ⟨RX14, "brought", "(II)I"⟩
abbrev cX14_cheap : ByteArray := prog_14_method_46_code
def yX14_cheap : MethodName := ⟨RX14, "cheap", "(I)I"⟩
abbrev cX14_source : ByteArray := prog_14_method_47_code
def yX14_source : MethodName := ⟨RX14, "source", "(I)I"⟩
abbrev cX14_restOf : ByteArray := prog_14_method_48_code
def yX14_restOf : MethodName := ⟨RX14, "restOf", "(I)J"⟩
abbrev cX14_takenOf : ByteArray := prog_14_method_49_code
def yX14_takenOf : MethodName := ⟨RX14, "takenOf", "(I)J"⟩
abbrev cX14_crownOf : ByteArray := prog_14_method_50_code
def yX14_crownOf : MethodName := ⟨RX14, "crownOf", "()J"⟩
abbrev cX14_taken : ByteArray := prog_14_method_51_code
def yX14_taken : MethodName := ⟨RX14, "taken", "(I)J"⟩
abbrev cX14_crown : ByteArray := prog_14_method_52_code
def yX14_crown : MethodName := ⟨RX14, "crown", "()J"⟩
abbrev cX14_lost : ByteArray := prog_14_method_53_code
def yX14_lost : MethodName := ⟨RX14, "lost", "()J"⟩
abbrev cX14_walks : ByteArray := prog_14_method_54_code
def yX14_walks : MethodName := ⟨RX14, "walks", "(I)V"⟩
abbrev cX14_carried : ByteArray := prog_14_method_55_code
def yX14_carried : MethodName := ⟨RX14, "carried", "(I)J"⟩
abbrev cX14_way : ByteArray := prog_14_method_56_code
def yX14_way : MethodName := ⟨RX14, "way", "(I)I"⟩
abbrev cX14_wayAt : ByteArray := prog_14_method_57_code
def yX14_wayAt : MethodName := ⟨RX14, "wayAt", "(II)I"⟩
abbrev cX14_tries : ByteArray := prog_14_method_58_code
def yX14_tries : MethodName := ⟨RX14, "tries", "(II)V"⟩
abbrev cX14_best : ByteArray := prog_14_method_59_code
def yX14_best : MethodName := ⟨RX14, "best", "(I)J"⟩
abbrev cX14_stand : ByteArray := prog_14_method_60_code
def yX14_stand : MethodName := ⟨RX14, "stand", "(I)I"⟩
abbrev cX14_isStore : ByteArray := prog_14_method_61_code
def yX14_isStore : MethodName := ⟨RX14, "isStore", "(I)Z"⟩
abbrev cX14_missingNow : ByteArray := prog_14_method_62_code
def yX14_missingNow : MethodName := ⟨RX14, "missingNow", "(I)I"⟩
abbrev cX14_pass : ByteArray := prog_14_method_63_code
def yX14_pass : MethodName := ⟨RX14, "pass", "()I"⟩
abbrev cX14_store : ByteArray := prog_14_method_64_code
def yX14_store : MethodName := ⟨RX14, "store", "(II)I"⟩
abbrev cX14_moves : ByteArray := prog_14_method_65_code
def yX14_moves : MethodName := ⟨RX14, "moves", "(IIZ)I"⟩
abbrev cX14_counted : ByteArray := prog_14_method_66_code
def yX14_counted : MethodName := ⟨RX14, "counted", "(II)I"⟩
abbrev cX14_missing : ByteArray := prog_14_method_67_code
def yX14_missing : MethodName := ⟨RX14, "missing", "(I)J"⟩
abbrev cX14_worst : ByteArray := prog_14_method_68_code
def yX14_worst : MethodName := ⟨RX14, "worst", "()I"⟩
abbrev cX14_count : ByteArray := prog_14_method_69_code
def yX14_count : MethodName := ⟨RX14, "count", "(I)I"⟩
abbrev cX14_trouble : ByteArray := prog_14_method_70_code
def yX14_trouble : MethodName := ⟨RX14, "trouble", "()I"⟩
def RJ9 : String := "java/lang/Math"
def TJ9 : u_T := fun k => match k with
  | _ => ("", "", "", false)
def tyJ9 : Nat → FieldType := fun k => match k with
  | _ => .int
abbrev wsJ90 : List Cond := u_ws RJ9 TJ9 0
theorem nmJ9 : ∀ a, a < 0 → ∀ b, b < 0 → a ≠ b → (TJ9 a).2.1 ≠ (TJ9 b).2.1 := by decide +kernel
theorem tyJ9_ok : ∀ k, k < 0 → parseFieldDescriptor (TJ9 k).2.2.1 = some (tyJ9 k) := by decide +kernel
abbrev cJ9_max_7cf53 : ByteArray := prog_18_method_65_code
def yJ9_max_7cf53 : MethodName := ⟨RJ9, "max", "(II)I"⟩
abbrev cJ9_max_f86c9 : ByteArray := prog_18_method_66_code
def yJ9_max_f86c9 : MethodName := ⟨RJ9, "max", "(JJ)J"⟩
abbrev cJ9_min_7cf53 : ByteArray := prog_18_method_69_code
def yJ9_min_7cf53 : MethodName := ⟨RJ9, "min", "(II)I"⟩
abbrev cJ9_min_f86c9 : ByteArray := prog_18_method_70_code
def yJ9_min_f86c9 : MethodName := ⟨RJ9, "min", "(JJ)J"⟩
def RJ0 : String := "java/lang/String"
def TJ0 : u_T := fun k => match k with
  | _ => ("", "", "", false)
def tyJ0 : Nat → FieldType := fun k => match k with
  | _ => .int
abbrev wsJ00 : List Cond := u_ws RJ0 TJ0 0
theorem nmJ0 : ∀ a, a < 0 → ∀ b, b < 0 → a ≠ b → (TJ0 a).2.1 ≠ (TJ0 b).2.1 := by decide +kernel
theorem tyJ0_ok : ∀ k, k < 0 → parseFieldDescriptor (TJ0 k).2.2.1 = some (tyJ0 k) := by decide +kernel
abbrev cJ0_length_8abf5 : ByteArray := prog_20_method_54_code
def yJ0_length_8abf5 : MethodName := ⟨RJ0, "length", "()I"⟩
abbrev cJ0_charAt_5068e : ByteArray := prog_20_method_56_code
def yJ0_charAt_5068e : MethodName := ⟨RJ0, "charAt", "(I)C"⟩
abbrev cJ0_coder_7d493 : ByteArray := prog_20_method_152_code
def yJ0_coder_7d493 : MethodName := ⟨RJ0, "coder", "()B"⟩
abbrev cJ0_isLatin1_aae02 : ByteArray := prog_20_method_154_code
def yJ0_isLatin1_aae02 : MethodName := ⟨RJ0, "isLatin1", "()Z"⟩
abbrev cJ0_checkIndex_df160 : ByteArray := prog_20_method_155_code
def yJ0_checkIndex_df160 : MethodName := ⟨RJ0, "checkIndex", "(II)V"⟩
def RJ1 : String := "java/lang/StringLatin1"
def TJ1 : u_T := fun k => match k with
  | _ => ("", "", "", false)
def tyJ1 : Nat → FieldType := fun k => match k with
  | _ => .int
abbrev wsJ10 : List Cond := u_ws RJ1 TJ1 0
theorem nmJ1 : ∀ a, a < 0 → ∀ b, b < 0 → a ≠ b → (TJ1 a).2.1 ≠ (TJ1 b).2.1 := by decide +kernel
theorem tyJ1_ok : ∀ k, k < 0 → parseFieldDescriptor (TJ1 k).2.2.1 = some (tyJ1 k) := by decide +kernel
abbrev cJ1_charAt_3b067 : ByteArray := prog_21_method_2_code
def yJ1_charAt_3b067 : MethodName := ⟨RJ1, "charAt", "([BI)C"⟩
def RJ2 : String := "java/lang/StringUTF16"
def TJ2 : u_T := fun k => match k with
  | _ => ("", "", "", false)
def tyJ2 : Nat → FieldType := fun k => match k with
  | _ => .int
abbrev wsJ20 : List Cond := u_ws RJ2 TJ2 0
theorem nmJ2 : ∀ a, a < 0 → ∀ b, b < 0 → a ≠ b → (TJ2 a).2.1 ≠ (TJ2 b).2.1 := by decide +kernel
theorem tyJ2_ok : ∀ k, k < 0 → parseFieldDescriptor (TJ2 k).2.2.1 = some (tyJ2 k) := by decide +kernel
abbrev cJ2_getChar_3b067 : ByteArray := prog_22_method_5_code
def yJ2_getChar_3b067 : MethodName := ⟨RJ2, "getChar", "([BI)C"⟩
abbrev cJ2_length_9d52b : ByteArray := prog_22_method_6_code
def yJ2_length_9d52b : MethodName := ⟨RJ2, "length", "([B)I"⟩
abbrev cJ2_charAt_3b067 : ByteArray := prog_22_method_83_code
def yJ2_charAt_3b067 : MethodName := ⟨RJ2, "charAt", "([BI)C"⟩
abbrev cJ2_checkIndex_2214a : ByteArray := prog_22_method_91_code
def yJ2_checkIndex_2214a : MethodName := ⟨RJ2, "checkIndex", "(I[B)V"⟩
def RJ10 : String := "java/lang/System"
def TJ10 : u_T := fun k => match k with
  | _ => ("", "", "", false)
def tyJ10 : Nat → FieldType := fun k => match k with
  | _ => .int
abbrev wsJ100 : List Cond := u_ws RJ10 TJ10 0
theorem nmJ10 : ∀ a, a < 0 → ∀ b, b < 0 → a ≠ b → (TJ10 a).2.1 ≠ (TJ10 b).2.1 := by decide +kernel
theorem tyJ10_ok : ∀ k, k < 0 → parseFieldDescriptor (TJ10 k).2.2.1 = some (tyJ10 k) := by decide +kernel
def RJ3 : String := "jdk/internal/util/Preconditions"
def TJ3 : u_T := fun k => match k with
  | _ => ("", "", "", false)
def tyJ3 : Nat → FieldType := fun k => match k with
  | _ => .int
abbrev wsJ30 : List Cond := u_ws RJ3 TJ3 0
theorem nmJ3 : ∀ a, a < 0 → ∀ b, b < 0 → a ≠ b → (TJ3 a).2.1 ≠ (TJ3 b).2.1 := by decide +kernel
theorem tyJ3_ok : ∀ k, k < 0 → parseFieldDescriptor (TJ3 k).2.2.1 = some (tyJ3 k) := by decide +kernel
abbrev cJ3_checkIndex_8e157 : ByteArray := prog_25_method_11_code
def yJ3_checkIndex_8e157 : MethodName := ⟨RJ3, "checkIndex", "(IILjava/util/function/BiFunction;)I"⟩
def RL : String := "SaltFarmLaw"

abbrev zcl : List vw_C := [(RX0, TX0, 4), (RX1, TX1, 3), (RX2, TX2, 3), (RX3, TX3, 12), (RX4, TX4, 7), (RX5, TX5, 5), (RX6, TX6, 6), (RX7, TX7, 6), (RX8, TX8, 2), (RX9, TX9, 3), (RX10, TX10, 4), (RX11, TX11, 16), (RX12, TX12, 10), (RX13, TX13, 8), (RX14, TX14, 47)]
def zALL : List Cond := lw_tbl.filter goodWord
theorem zin {w : Cond} (i : Nat) (h : lw_tbl[i]? = some w) (g : goodWord w = true) : w ∈ zALL := List.mem_filter.mpr ⟨List.mem_of_getElem? h, g⟩
theorem zALL_good : ∀ w ∈ zALL, goodWord w = true := fun w h => (List.mem_filter.mp h).2
theorem zALL_in : ∀ w ∈ zALL, w ∈ lw_tbl := fun w h => (List.mem_filter.mp h).1
def zisNest : Cond → Bool
  | .methodLinkNest .. => true
  | .fieldLinkNest .. => true
  | .castable .. => true
  | _ => false
def zNest : List Cond := lw_tbl.filter zisNest
theorem zinN {w : Cond} (i : Nat) (h : lw_tbl[i]? = some w) (g : zisNest w = true) : w ∈ zNest := List.mem_filter.mpr ⟨List.mem_of_getElem? h, g⟩
def zisAO : Cond → Bool
  | .arrayOver (.object _) => true
  | _ => false
def zAO : List Cond := lw_tbl.filter zisAO
theorem zinA {w : Cond} (i : Nat) (h : lw_tbl[i]? = some w) (g : zisAO w = true) : w ∈ zAO := List.mem_filter.mpr ⟨List.mem_of_getElem? h, g⟩
set_option maxRecDepth 100000 in
theorem zi0 : ∀ w ∈ wsX00, w ∈ zALL := by
  have h : (wsX00).all (fun w => decide (w ∈ zALL)) = true := by decide +kernel
  exact fun w hw => of_decide_eq_true (List.all_eq_true.mp h w hw)
set_option maxRecDepth 100000 in
theorem zi1 : ∀ w ∈ wsX10, w ∈ zALL := by
  have h : (wsX10).all (fun w => decide (w ∈ zALL)) = true := by decide +kernel
  exact fun w hw => of_decide_eq_true (List.all_eq_true.mp h w hw)
set_option maxRecDepth 100000 in
theorem zi2 : ∀ w ∈ wsX20, w ∈ zALL := by
  have h : (wsX20).all (fun w => decide (w ∈ zALL)) = true := by decide +kernel
  exact fun w hw => of_decide_eq_true (List.all_eq_true.mp h w hw)
set_option maxRecDepth 100000 in
theorem zi3 : ∀ w ∈ wsX30, w ∈ zALL := by
  have h : (wsX30).all (fun w => decide (w ∈ zALL)) = true := by decide +kernel
  exact fun w hw => of_decide_eq_true (List.all_eq_true.mp h w hw)
set_option maxRecDepth 100000 in
theorem zi4 : ∀ w ∈ wsX40, w ∈ zALL := by
  have h : (wsX40).all (fun w => decide (w ∈ zALL)) = true := by decide +kernel
  exact fun w hw => of_decide_eq_true (List.all_eq_true.mp h w hw)
set_option maxRecDepth 100000 in
theorem zi5 : ∀ w ∈ wsX50, w ∈ zALL := by
  have h : (wsX50).all (fun w => decide (w ∈ zALL)) = true := by decide +kernel
  exact fun w hw => of_decide_eq_true (List.all_eq_true.mp h w hw)
set_option maxRecDepth 100000 in
theorem zi6 : ∀ w ∈ wsX60, w ∈ zALL := by
  have h : (wsX60).all (fun w => decide (w ∈ zALL)) = true := by decide +kernel
  exact fun w hw => of_decide_eq_true (List.all_eq_true.mp h w hw)
set_option maxRecDepth 100000 in
theorem zi7 : ∀ w ∈ wsX70, w ∈ zALL := by
  have h : (wsX70).all (fun w => decide (w ∈ zALL)) = true := by decide +kernel
  exact fun w hw => of_decide_eq_true (List.all_eq_true.mp h w hw)
set_option maxRecDepth 100000 in
theorem zi8 : ∀ w ∈ wsX80, w ∈ zALL := by
  have h : (wsX80).all (fun w => decide (w ∈ zALL)) = true := by decide +kernel
  exact fun w hw => of_decide_eq_true (List.all_eq_true.mp h w hw)
set_option maxRecDepth 100000 in
theorem zi9 : ∀ w ∈ wsX90, w ∈ zALL := by
  have h : (wsX90).all (fun w => decide (w ∈ zALL)) = true := by decide +kernel
  exact fun w hw => of_decide_eq_true (List.all_eq_true.mp h w hw)
set_option maxRecDepth 100000 in
theorem zi10 : ∀ w ∈ wsX100, w ∈ zALL := by
  have h : (wsX100).all (fun w => decide (w ∈ zALL)) = true := by decide +kernel
  exact fun w hw => of_decide_eq_true (List.all_eq_true.mp h w hw)
set_option maxRecDepth 100000 in
theorem zi11 : ∀ w ∈ wsX110, w ∈ zALL := by
  have h : (wsX110).all (fun w => decide (w ∈ zALL)) = true := by decide +kernel
  exact fun w hw => of_decide_eq_true (List.all_eq_true.mp h w hw)
set_option maxRecDepth 100000 in
theorem zi12 : ∀ w ∈ wsX120, w ∈ zALL := by
  have h : (wsX120).all (fun w => decide (w ∈ zALL)) = true := by decide +kernel
  exact fun w hw => of_decide_eq_true (List.all_eq_true.mp h w hw)
set_option maxRecDepth 100000 in
theorem zi13 : ∀ w ∈ wsX130, w ∈ zALL := by
  have h : (wsX130).all (fun w => decide (w ∈ zALL)) = true := by decide +kernel
  exact fun w hw => of_decide_eq_true (List.all_eq_true.mp h w hw)
set_option maxRecDepth 100000 in
theorem zi14 : ∀ w ∈ wsX140, w ∈ zALL := by
  have h : (wsX140).all (fun w => decide (w ∈ zALL)) = true := by decide +kernel
  exact fun w hw => of_decide_eq_true (List.all_eq_true.mp h w hw)
theorem zcl_in {ci : Nat} {C : String} {T : u_T} {N : Nat} (h : zcl[ci]? = some (C, T, N)) : ∀ w ∈ u_ws C T N, w ∈ zALL := by
  match ci, h with
  | 0, h => cases h; exact zi0
  | 1, h => cases h; exact zi1
  | 2, h => cases h; exact zi2
  | 3, h => cases h; exact zi3
  | 4, h => cases h; exact zi4
  | 5, h => cases h; exact zi5
  | 6, h => cases h; exact zi6
  | 7, h => cases h; exact zi7
  | 8, h => cases h; exact zi8
  | 9, h => cases h; exact zi9
  | 10, h => cases h; exact zi10
  | 11, h => cases h; exact zi11
  | 12, h => cases h; exact zi12
  | 13, h => cases h; exact zi13
  | 14, h => cases h; exact zi14
  | k + 15, h => simp [zcl] at h
def zty : Nat → Nat → FieldType
  | 0 => tyX0
  | 1 => tyX1
  | 2 => tyX2
  | 3 => tyX3
  | 4 => tyX4
  | 5 => tyX5
  | 6 => tyX6
  | 7 => tyX7
  | 8 => tyX8
  | 9 => tyX9
  | 10 => tyX10
  | 11 => tyX11
  | 12 => tyX12
  | 13 => tyX13
  | 14 => tyX14
  | _ => fun _ => .int
theorem zcl_ty {ci : Nat} {C : String} {T : u_T} {N : Nat} (h : zcl[ci]? = some (C, T, N)) : ∀ k, k < N → parseFieldDescriptor (T k).2.2.1 = some (zty ci k) := by
  match ci, h with
  | 0, h => cases h; exact tyX0_ok
  | 1, h => cases h; exact tyX1_ok
  | 2, h => cases h; exact tyX2_ok
  | 3, h => cases h; exact tyX3_ok
  | 4, h => cases h; exact tyX4_ok
  | 5, h => cases h; exact tyX5_ok
  | 6, h => cases h; exact tyX6_ok
  | 7, h => cases h; exact tyX7_ok
  | 8, h => cases h; exact tyX8_ok
  | 9, h => cases h; exact tyX9_ok
  | 10, h => cases h; exact tyX10_ok
  | 11, h => cases h; exact tyX11_ok
  | 12, h => cases h; exact tyX12_ok
  | 13, h => cases h; exact tyX13_ok
  | 14, h => cases h; exact tyX14_ok
  | k + 15, h => simp [zcl] at h
theorem zcl_nm {ci : Nat} {C : String} {T : u_T} {N : Nat} (h : zcl[ci]? = some (C, T, N)) : ∀ a, a < N → ∀ b, b < N → a ≠ b → (T a).2.1 ≠ (T b).2.1 := by
  match ci, h with
  | 0, h => cases h; exact nmX0
  | 1, h => cases h; exact nmX1
  | 2, h => cases h; exact nmX2
  | 3, h => cases h; exact nmX3
  | 4, h => cases h; exact nmX4
  | 5, h => cases h; exact nmX5
  | 6, h => cases h; exact nmX6
  | 7, h => cases h; exact nmX7
  | 8, h => cases h; exact nmX8
  | 9, h => cases h; exact nmX9
  | 10, h => cases h; exact nmX10
  | 11, h => cases h; exact nmX11
  | 12, h => cases h; exact nmX12
  | 13, h => cases h; exact nmX13
  | 14, h => cases h; exact nmX14
  | k + 15, h => simp [zcl] at h
