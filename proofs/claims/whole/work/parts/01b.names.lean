def RX0 : String := "FreightPaths$Bid"
def TX0 : u_T := fun k => match k with
  | 0 => ("FreightPaths$Bid", "number", "I", true)
  | 1 => ("FreightPaths$Bid", "house", "I", true)
  | 2 => ("FreightPaths$Bid", "from", "I", true)
  | 3 => ("FreightPaths$Bid", "to", "I", true)
  | 4 => ("FreightPaths$Bid", "kind", "I", true)
  | 5 => ("FreightPaths$Bid", "earliest", "I", true)
  | 6 => ("FreightPaths$Bid", "latest", "I", true)
  | 7 => ("FreightPaths$Bid", "worth", "I", true)
  | 8 => ("FreightPaths$Bid", "rank", "I", true)
  | 9 => ("FreightPaths$Bid", "partner", "I", false)
  | 10 => ("FreightPaths$Bid", "hasPath", "Z", false)
  | 11 => ("FreightPaths$Bid", "leaves", "[I", true)
  | 12 => ("FreightPaths$Bid", "comes", "[I", true)
  | _ => ("FreightPaths$Bid", "delays", "[I", true)
def tyX0 : Nat → FieldType := fun k => match k with
  | 0 => .int
  | 1 => .int
  | 2 => .int
  | 3 => .int
  | 4 => .int
  | 5 => .int
  | 6 => .int
  | 7 => .int
  | 8 => .int
  | 9 => .int
  | 10 => .boolean
  | 11 => .array .int
  | 12 => .array .int
  | _ => .array .int
theorem nmX0 : ∀ a, a < 14 → ∀ b, b < 14 → a ≠ b → (TX0 a).2.1 ≠ (TX0 b).2.1 := by decide +kernel
theorem tyX0_ok : ∀ k, k < 14 → parseFieldDescriptor (TX0 k).2.2.1 = some (tyX0 k) := by decide +kernel
abbrev cX0_init : ByteArray := prog_2_method_1_code
def yX0_init : MethodName := ⟨RX0, "<init>", "(IIIII)V"⟩
abbrev cX0_isWhat : ByteArray := prog_2_method_2_code
def yX0_isWhat : MethodName := ⟨RX0, "isWhat", "(II)Z"⟩
abbrev cX0_isWhen : ByteArray := prog_2_method_3_code
def yX0_isWhen : MethodName := ⟨RX0, "isWhen", "(I)Z"⟩
abbrev cX0_takePath : ByteArray := prog_2_method_4_code
def yX0_takePath : MethodName := ⟨RX0, "takePath", "([I[I)V"⟩
abbrev cX0_steps : ByteArray := prog_2_method_5_code
def yX0_steps : MethodName := ⟨RX0, "steps", "()I"⟩
abbrev cX0_way : ByteArray := prog_2_method_6_code
def yX0_way : MethodName := ⟨RX0, "way", "()I"⟩
abbrev cX0_stationAt : ByteArray := prog_2_method_7_code
def yX0_stationAt : MethodName := ⟨RX0, "stationAt", "(I)I"⟩
abbrev cX0_sectionAt : ByteArray := prog_2_method_8_code
def yX0_sectionAt : MethodName := ⟨RX0, "sectionAt", "(I)I"⟩
abbrev cX0_stepAtStation : ByteArray := prog_2_method_9_code
def yX0_stepAtStation : MethodName := ⟨RX0, "stepAtStation", "(I)I"⟩
abbrev cX0_stepInSection : ByteArray := prog_2_method_10_code
def yX0_stepInSection : MethodName := ⟨RX0, "stepInSection", "(I)I"⟩
def RX1 : String := "FreightPaths$Book"
def TX1 : u_T := fun k => match k with
  | 0 => ("FreightPaths$Book", "bids", "Ljava/util/ArrayList;", true)
  | _ => ("FreightPaths$Book", "byRank", "Ljava/util/ArrayList;", true)
def tyX1 : Nat → FieldType := fun k => match k with
  | 0 => .object "java/util/ArrayList"
  | _ => .object "java/util/ArrayList"
theorem nmX1 : ∀ a, a < 2 → ∀ b, b < 2 → a ≠ b → (TX1 a).2.1 ≠ (TX1 b).2.1 := by decide +kernel
theorem tyX1_ok : ∀ k, k < 2 → parseFieldDescriptor (TX1 k).2.2.1 = some (tyX1 k) := by decide +kernel
abbrev cX1_init : ByteArray := prog_3_method_1_code
def yX1_init : MethodName := ⟨RX1, "<init>", "()V"⟩
abbrev cX1_size : ByteArray := prog_3_method_2_code
def yX1_size : MethodName := ⟨RX1, "size", "()I"⟩
abbrev cX1_at : ByteArray := prog_3_method_3_code
def yX1_at : MethodName := ⟨RX1, "at", "(I)LFreightPaths$Bid;"⟩
abbrev cX1_add : ByteArray := prog_3_method_4_code
def yX1_add : MethodName := ⟨RX1, "add", "(LFreightPaths$Bid;)V"⟩
abbrev cX1_dropAll : ByteArray := prog_3_method_5_code
def yX1_dropAll : MethodName := ⟨RX1, "dropAll", "()V"⟩
abbrev cX1_pathsGiven : ByteArray := prog_3_method_6_code
def yX1_pathsGiven : MethodName := ⟨RX1, "pathsGiven", "()I"⟩
abbrev cX1_worthsGiven : ByteArray := prog_3_method_7_code
def yX1_worthsGiven : MethodName := ⟨RX1, "worthsGiven", "()I"⟩
def RX2 : String := "FreightPaths$Breaks"
def TX2 : u_T := fun k => match k with
  | 0 => ("FreightPaths$Breaks", "line", "LFreightPaths$Line;", true)
  | 1 => ("FreightPaths$Breaks", "book", "LFreightPaths$Book;", true)
  | 2 => ("FreightPaths$Breaks", "bidNumber", "I", false)
  | 3 => ("FreightPaths$Breaks", "rule", "I", false)
  | _ => ("FreightPaths$Breaks", "minute", "I", false)
def tyX2 : Nat → FieldType := fun k => match k with
  | 0 => .object "FreightPaths$Line"
  | 1 => .object "FreightPaths$Book"
  | 2 => .int
  | 3 => .int
  | _ => .int
theorem nmX2 : ∀ a, a < 5 → ∀ b, b < 5 → a ≠ b → (TX2 a).2.1 ≠ (TX2 b).2.1 := by decide +kernel
theorem tyX2_ok : ∀ k, k < 5 → parseFieldDescriptor (TX2 k).2.2.1 = some (tyX2 k) := by decide +kernel
abbrev cX2_init : ByteArray := prog_4_method_1_code
def yX2_init : MethodName := ⟨RX2, "<init>", "(LFreightPaths$Line;LFreightPaths$Book;)V"⟩
abbrev cX2_seekFirst : ByteArray := prog_4_method_2_code
def yX2_seekFirst : MethodName := ⟨RX2, "seekFirst", "()Z"⟩
abbrev cX2_firstMinute : ByteArray := prog_4_method_3_code
def yX2_firstMinute : MethodName := ⟨RX2, "firstMinute", "(LFreightPaths$Bid;I)I"⟩
abbrev cX2_firstClosed : ByteArray := prog_4_method_4_code
def yX2_firstClosed : MethodName := ⟨RX2, "firstClosed", "(LFreightPaths$Bid;)I"⟩
abbrev cX2_firstHeld : ByteArray := prog_4_method_5_code
def yX2_firstHeld : MethodName := ⟨RX2, "firstHeld", "(LFreightPaths$Bid;)I"⟩
abbrev cX2_isHeldByOther : ByteArray := prog_4_method_6_code
def yX2_isHeldByOther : MethodName := ⟨RX2, "isHeldByOther", "(LFreightPaths$Bid;II)Z"⟩
abbrev cX2_firstCrowded : ByteArray := prog_4_method_7_code
def yX2_firstCrowded : MethodName := ⟨RX2, "firstCrowded", "(LFreightPaths$Bid;)I"⟩
abbrev cX2_standingAt : ByteArray := prog_4_method_8_code
def yX2_standingAt : MethodName := ⟨RX2, "standingAt", "(II)I"⟩
def RX3 : String := "FreightPaths$Line"
def TX3 : u_T := fun k => match k with
  | 0 => ("FreightPaths$Line", "stations", "I", true)
  | 1 => ("FreightPaths$Line", "isDouble", "[Z", true)
  | 2 => ("FreightPaths$Line", "fastMinutes", "[I", true)
  | 3 => ("FreightPaths$Line", "slowMinutes", "[I", true)
  | 4 => ("FreightPaths$Line", "tracksAt", "[I", true)
  | 5 => ("FreightPaths$Line", "worksSection", "[I", true)
  | 6 => ("FreightPaths$Line", "worksFrom", "[I", true)
  | 7 => ("FreightPaths$Line", "worksTo", "[I", true)
  | 8 => ("FreightPaths$Line", "worksCame", "I", false)
  | _ => ("FreightPaths$Line", "headwayMinutes", "I", false)
def tyX3 : Nat → FieldType := fun k => match k with
  | 0 => .int
  | 1 => .array .boolean
  | 2 => .array .int
  | 3 => .array .int
  | 4 => .array .int
  | 5 => .array .int
  | 6 => .array .int
  | 7 => .array .int
  | 8 => .int
  | _ => .int
theorem nmX3 : ∀ a, a < 10 → ∀ b, b < 10 → a ≠ b → (TX3 a).2.1 ≠ (TX3 b).2.1 := by decide +kernel
theorem tyX3_ok : ∀ k, k < 10 → parseFieldDescriptor (TX3 k).2.2.1 = some (tyX3 k) := by decide +kernel
abbrev cX3_init : ByteArray := prog_5_method_1_code
def yX3_init : MethodName := ⟨RX3, "<init>", "(I)V"⟩
abbrev cX3_hasStation : ByteArray := prog_5_method_2_code
def yX3_hasStation : MethodName := ⟨RX3, "hasStation", "(I)Z"⟩
abbrev cX3_hasSection : ByteArray := prog_5_method_3_code
def yX3_hasSection : MethodName := ⟨RX3, "hasSection", "(I)Z"⟩
abbrev cX3_setSection : ByteArray := prog_5_method_4_code
def yX3_setSection : MethodName := ⟨RX3, "setSection", "(IZII)V"⟩
abbrev cX3_addWorks : ByteArray := prog_5_method_5_code
def yX3_addWorks : MethodName := ⟨RX3, "addWorks", "(III)V"⟩
abbrev cX3_isClosed : ByteArray := prog_5_method_6_code
def yX3_isClosed : MethodName := ⟨RX3, "isClosed", "(II)Z"⟩
abbrev cX3_holdBehind : ByteArray := prog_5_method_7_code
def yX3_holdBehind : MethodName := ⟨RX3, "holdBehind", "()I"⟩
abbrev cX3_isShared : ByteArray := prog_5_method_8_code
def yX3_isShared : MethodName := ⟨RX3, "isShared", "(ILFreightPaths$Bid;LFreightPaths$Bid;)Z"⟩
abbrev cX3_lengthOf : ByteArray := prog_5_method_9_code
def yX3_lengthOf : MethodName := ⟨RX3, "lengthOf", "(LFreightPaths$Bid;I)I"⟩
def RX4 : String := "FreightPaths$PathSearch"
def TX4 : u_T := fun k => match k with
  | 0 => ("FreightPaths$PathSearch", "line", "LFreightPaths$Line;", true)
  | 1 => ("FreightPaths$PathSearch", "book", "LFreightPaths$Book;", true)
  | 2 => ("FreightPaths$PathSearch", "canCome", "[Z", true)
  | 3 => ("FreightPaths$PathSearch", "isBlocked", "[Z", true)
  | 4 => ("FreightPaths$PathSearch", "standing", "[I", true)
  | 5 => ("FreightPaths$PathSearch", "leaves", "[I", true)
  | _ => ("FreightPaths$PathSearch", "comes", "[I", true)
def tyX4 : Nat → FieldType := fun k => match k with
  | 0 => .object "FreightPaths$Line"
  | 1 => .object "FreightPaths$Book"
  | 2 => .array .boolean
  | 3 => .array .boolean
  | 4 => .array .int
  | 5 => .array .int
  | _ => .array .int
theorem nmX4 : ∀ a, a < 7 → ∀ b, b < 7 → a ≠ b → (TX4 a).2.1 ≠ (TX4 b).2.1 := by decide +kernel
theorem tyX4_ok : ∀ k, k < 7 → parseFieldDescriptor (TX4 k).2.2.1 = some (tyX4 k) := by decide +kernel
abbrev cX4_init : ByteArray := prog_6_method_1_code
def yX4_init : MethodName := ⟨RX4, "<init>", "(LFreightPaths$Line;LFreightPaths$Book;)V"⟩
abbrev cX4_endFor : ByteArray := prog_6_method_2_code
def yX4_endFor : MethodName := ⟨RX4, "endFor", "(LFreightPaths$Bid;)I"⟩
abbrev cX4_clearComings : ByteArray := prog_6_method_3_code
def yX4_clearComings : MethodName := ⟨RX4, "clearComings", "(LFreightPaths$Bid;I)V"⟩
abbrev cX4_clearMinutes : ByteArray := prog_6_method_4_code
def yX4_clearMinutes : MethodName := ⟨RX4, "clearMinutes", "(LFreightPaths$Bid;)V"⟩
abbrev cX4_blockByWorks : ByteArray := prog_6_method_5_code
def yX4_blockByWorks : MethodName := ⟨RX4, "blockByWorks", "(LFreightPaths$Bid;I)V"⟩
abbrev cX4_blockByOthers : ByteArray := prog_6_method_6_code
def yX4_blockByOthers : MethodName := ⟨RX4, "blockByOthers", "(LFreightPaths$Bid;I)V"⟩
abbrev cX4_block : ByteArray := prog_6_method_7_code
def yX4_block : MethodName := ⟨RX4, "block", "(II)V"⟩
abbrev cX4_countStanding : ByteArray := prog_6_method_8_code
def yX4_countStanding : MethodName := ⟨RX4, "countStanding", "(LFreightPaths$Bid;I)V"⟩
abbrev cX4_spreadComings : ByteArray := prog_6_method_9_code
def yX4_spreadComings : MethodName := ⟨RX4, "spreadComings", "(LFreightPaths$Bid;I)V"⟩
abbrev cX4_traceBack : ByteArray := prog_6_method_10_code
def yX4_traceBack : MethodName := ⟨RX4, "traceBack", "(LFreightPaths$Bid;I)V"⟩
def RX5 : String := "FreightPaths$Rounds"
def TX5 : u_T := fun k => match k with
  | 0 => ("FreightPaths$Rounds", "book", "LFreightPaths$Book;", true)
  | 1 => ("FreightPaths$Rounds", "search", "LFreightPaths$PathSearch;", true)
  | 2 => ("FreightPaths$Rounds", "hasCome", "[Z", true)
  | 3 => ("FreightPaths$Rounds", "order", "[I", true)
  | 4 => ("FreightPaths$Rounds", "bestOrder", "[I", true)
  | 5 => ("FreightPaths$Rounds", "bestLength", "I", false)
  | _ => ("FreightPaths$Rounds", "bestWorth", "I", false)
def tyX5 : Nat → FieldType := fun k => match k with
  | 0 => .object "FreightPaths$Book"
  | 1 => .object "FreightPaths$PathSearch"
  | 2 => .array .boolean
  | 3 => .array .int
  | 4 => .array .int
  | 5 => .int
  | _ => .int
theorem nmX5 : ∀ a, a < 7 → ∀ b, b < 7 → a ≠ b → (TX5 a).2.1 ≠ (TX5 b).2.1 := by decide +kernel
theorem tyX5_ok : ∀ k, k < 7 → parseFieldDescriptor (TX5 k).2.2.1 = some (tyX5 k) := by decide +kernel
abbrev cX5_init : ByteArray := prog_7_method_1_code
def yX5_init : MethodName := ⟨RX5, "<init>", "(LFreightPaths$Book;LFreightPaths$PathSearch;)V"⟩
abbrev cX5_comeByRank : ByteArray := prog_7_method_2_code
def yX5_comeByRank : MethodName := ⟨RX5, "comeByRank", "()V"⟩
abbrev cX5_comeByBestOrder : ByteArray := prog_7_method_3_code
def yX5_comeByBestOrder : MethodName := ⟨RX5, "comeByBestOrder", "()V"⟩
abbrev cX5_tryOrders : ByteArray := prog_7_method_4_code
def yX5_tryOrders : MethodName := ⟨RX5, "tryOrders", "(LFreightPaths$Rounds;II)V"⟩
abbrev cX5_keepOrder : ByteArray := prog_7_method_5_code
def yX5_keepOrder : MethodName := ⟨RX5, "keepOrder", "(II)V"⟩
abbrev cX5_startAnew : ByteArray := prog_7_method_6_code
def yX5_startAnew : MethodName := ⟨RX5, "startAnew", "()V"⟩
abbrev cX5_comeWithPartner : ByteArray := prog_7_method_7_code
def yX5_comeWithPartner : MethodName := ⟨RX5, "comeWithPartner", "(LFreightPaths$Bid;)I"⟩
abbrev cX5_takeBackWithPartner : ByteArray := prog_7_method_8_code
def yX5_takeBackWithPartner : MethodName := ⟨RX5, "takeBackWithPartner", "(LFreightPaths$Bid;)V"⟩
abbrev cX5_takeBack : ByteArray := prog_7_method_9_code
def yX5_takeBack : MethodName := ⟨RX5, "takeBack", "(LFreightPaths$Bid;)V"⟩
def RX6 : String := "FreightPaths$Run"
def TX6 : u_T := fun k => match k with
  | 0 => ("FreightPaths$Run", "line", "LFreightPaths$Line;", true)
  | 1 => ("FreightPaths$Run", "book", "LFreightPaths$Book;", true)
  | 2 => ("FreightPaths$Run", "isUpToDate", "Z", false)
  | 3 => ("FreightPaths$Run", "stepOf", "[I", true)
  | 4 => ("FreightPaths$Run", "thereFrom", "[I", true)
  | 5 => ("FreightPaths$Run", "delayLeft", "[I", true)
  | 6 => ("FreightPaths$Run", "toSelf", "[I", true)
  | 7 => ("FreightPaths$Run", "toNone", "[I", true)
  | 8 => ("FreightPaths$Run", "toOther", "[I", true)
  | 9 => ("FreightPaths$Run", "holder", "[I", true)
  | _ => ("FreightPaths$Run", "heldTill", "[I", true)
def tyX6 : Nat → FieldType := fun k => match k with
  | 0 => .object "FreightPaths$Line"
  | 1 => .object "FreightPaths$Book"
  | 2 => .boolean
  | 3 => .array .int
  | 4 => .array .int
  | 5 => .array .int
  | 6 => .array .int
  | 7 => .array .int
  | 8 => .array .int
  | 9 => .array .int
  | _ => .array .int
theorem nmX6 : ∀ a, a < 11 → ∀ b, b < 11 → a ≠ b → (TX6 a).2.1 ≠ (TX6 b).2.1 := by decide +kernel
theorem tyX6_ok : ∀ k, k < 11 → parseFieldDescriptor (TX6 k).2.2.1 = some (tyX6 k) := by decide +kernel
abbrev cX6_init : ByteArray := prog_8_method_1_code
def yX6_init : MethodName := ⟨RX6, "<init>", "(LFreightPaths$Line;LFreightPaths$Book;)V"⟩
abbrev cX6_forget : ByteArray := prog_8_method_2_code
def yX6_forget : MethodName := ⟨RX6, "forget", "()V"⟩
abbrev cX6_bringUpToDate : ByteArray := prog_8_method_3_code
def yX6_bringUpToDate : MethodName := ⟨RX6, "bringUpToDate", "()V"⟩
abbrev cX6_reset : ByteArray := prog_8_method_4_code
def yX6_reset : MethodName := ⟨RX6, "reset", "()V"⟩
abbrev cX6_wantsToLeave : ByteArray := prog_8_method_5_code
def yX6_wantsToLeave : MethodName := ⟨RX6, "wantsToLeave", "(LFreightPaths$Bid;I)Z"⟩
abbrev cX6_leaveOrPutDown : ByteArray := prog_8_method_6_code
def yX6_leaveOrPutDown : MethodName := ⟨RX6, "leaveOrPutDown", "(LFreightPaths$Bid;I)V"⟩
abbrev cX6_told : ByteArray := prog_8_method_7_code
def yX6_told : MethodName := ⟨RX6, "told", "(LFreightPaths$Bid;I)I"⟩
abbrev cX6_toOthers : ByteArray := prog_8_method_8_code
def yX6_toOthers : MethodName := ⟨RX6, "toOthers", "(I)I"⟩
abbrev cX6_coinsOf : ByteArray := prog_8_method_9_code
def yX6_coinsOf : MethodName := ⟨RX6, "coinsOf", "(I)I"⟩
def RX7 : String := "FreightPaths"
def TX7 : u_T := fun k => match k with
  | 0 => ("FreightPaths", "line", "LFreightPaths$Line;", true)
  | 1 => ("FreightPaths", "book", "LFreightPaths$Book;", true)
  | 2 => ("FreightPaths", "search", "LFreightPaths$PathSearch;", true)
  | 3 => ("FreightPaths", "rounds", "LFreightPaths$Rounds;", true)
  | 4 => ("FreightPaths", "breaks", "LFreightPaths$Breaks;", true)
  | _ => ("FreightPaths", "run", "LFreightPaths$Run;", true)
def tyX7 : Nat → FieldType := fun k => match k with
  | 0 => .object "FreightPaths$Line"
  | 1 => .object "FreightPaths$Book"
  | 2 => .object "FreightPaths$PathSearch"
  | 3 => .object "FreightPaths$Rounds"
  | 4 => .object "FreightPaths$Breaks"
  | _ => .object "FreightPaths$Run"
theorem nmX7 : ∀ a, a < 6 → ∀ b, b < 6 → a ≠ b → (TX7 a).2.1 ≠ (TX7 b).2.1 := by decide +kernel
theorem tyX7_ok : ∀ k, k < 6 → parseFieldDescriptor (TX7 k).2.2.1 = some (tyX7 k) := by decide +kernel
abbrev cX7_init : ByteArray := prog_1_method_1_code
def yX7_init : MethodName := ⟨RX7, "<init>", "(I)V"⟩
abbrev cX7_section : ByteArray := prog_1_method_2_code
def yX7_section : MethodName := ⟨RX7, "section", "(IZII)Z"⟩
abbrev cX7_tracks : ByteArray := prog_1_method_3_code
def yX7_tracks : MethodName := ⟨RX7, "tracks", "(II)Z"⟩
abbrev cX7_headway : ByteArray := prog_1_method_4_code
def yX7_headway : MethodName := ⟨RX7, "headway", "(I)Z"⟩
abbrev cX7_works : ByteArray := prog_1_method_5_code
def yX7_works : MethodName := ⟨RX7, "works", "(III)Z"⟩
abbrev cX7_bid : ByteArray := prog_1_method_6_code
def yX7_bid : MethodName := ⟨RX7, "bid", "(IIII)I"⟩
abbrev cX7_link : ByteArray := prog_1_method_7_code
def yX7_link : MethodName := ⟨RX7, "link", "(II)Z"⟩
abbrev cX7_find : ByteArray := prog_1_method_8_code
def yX7_find : MethodName := ⟨RX7, "find", "(I)I"⟩
abbrev cX7_give : ByteArray := prog_1_method_9_code
def yX7_give : MethodName := ⟨RX7, "give", "(I)Z"⟩
abbrev cX7_drop : ByteArray := prog_1_method_10_code
def yX7_drop : MethodName := ⟨RX7, "drop", "(I)Z"⟩
abbrev cX7_round : ByteArray := prog_1_method_11_code
def yX7_round : MethodName := ⟨RX7, "round", "()I"⟩
abbrev cX7_best : ByteArray := prog_1_method_12_code
def yX7_best : MethodName := ⟨RX7, "best", "()I"⟩
abbrev cX7_path : ByteArray := prog_1_method_13_code
def yX7_path : MethodName := ⟨RX7, "path", "(II)I"⟩
abbrev cX7_why : ByteArray := prog_1_method_14_code
def yX7_why : MethodName := ⟨RX7, "why", "(I)I"⟩
abbrev cX7_delay : ByteArray := prog_1_method_15_code
def yX7_delay : MethodName := ⟨RX7, "delay", "(III)Z"⟩
abbrev cX7_ran : ByteArray := prog_1_method_16_code
def yX7_ran : MethodName := ⟨RX7, "ran", "(II)I"⟩
abbrev cX7_blame : ByteArray := prog_1_method_17_code
def yX7_blame : MethodName := ⟨RX7, "blame", "(II)I"⟩
abbrev cX7_balance : ByteArray := prog_1_method_18_code
def yX7_balance : MethodName := ⟨RX7, "balance", "(I)I"⟩
abbrev cX7_count : ByteArray := prog_1_method_19_code
def yX7_count : MethodName := ⟨RX7, "count", "(I)I"⟩
abbrev cX7_isWithin : ByteArray := prog_1_method_20_code
def yX7_isWithin : MethodName := ⟨RX7, "isWithin", "(III)Z"⟩
def RX8 : String := "FreightPathsModel"
def TX8 : u_T := fun k => match k with
  | 0 => ("FreightPathsModel", "stations", "I", true)
  | 1 => ("FreightPathsModel", "isDouble", "[Z", true)
  | 2 => ("FreightPathsModel", "minutes", "[I", true)
  | 3 => ("FreightPathsModel", "tracks", "[I", true)
  | 4 => ("FreightPathsModel", "headway", "I", false)
  | 5 => ("FreightPathsModel", "works", "I", false)
  | 6 => ("FreightPathsModel", "workAt", "[I", true)
  | 7 => ("FreightPathsModel", "workFrom", "[I", true)
  | 8 => ("FreightPathsModel", "workTo", "[I", true)
  | 9 => ("FreightPathsModel", "bids", "I", false)
  | 10 => ("FreightPathsModel", "house", "[I", true)
  | 11 => ("FreightPathsModel", "from", "[I", true)
  | 12 => ("FreightPathsModel", "to", "[I", true)
  | 13 => ("FreightPathsModel", "kind", "[I", true)
  | 14 => ("FreightPathsModel", "earliest", "[I", true)
  | 15 => ("FreightPathsModel", "latest", "[I", true)
  | 16 => ("FreightPathsModel", "worth", "[I", true)
  | 17 => ("FreightPathsModel", "rank", "[I", true)
  | 18 => ("FreightPathsModel", "linked", "[I", true)
  | 19 => ("FreightPathsModel", "isGiven", "[Z", true)
  | 20 => ("FreightPathsModel", "leaves", "[I", true)
  | 21 => ("FreightPathsModel", "delays", "[I", true)
  | 22 => ("FreightPathsModel", "comes", "[Z", true)
  | 23 => ("FreightPathsModel", "found", "[I", true)
  | 24 => ("FreightPathsModel", "order", "[I", true)
  | 25 => ("FreightPathsModel", "isAsked", "[Z", true)
  | 26 => ("FreightPathsModel", "leg", "[I", true)
  | 27 => ("FreightPathsModel", "until", "[I", true)
  | 28 => ("FreightPathsModel", "came", "[I", true)
  | 29 => ("FreightPathsModel", "left", "[I", true)
  | 30 => ("FreightPathsModel", "wentIn", "[I", true)
  | 31 => ("FreightPathsModel", "own", "[I", true)
  | 32 => ("FreightPathsModel", "nobody", "[I", true)
  | _ => ("FreightPathsModel", "blamed", "[I", true)
def tyX8 : Nat → FieldType := fun k => match k with
  | 0 => .int
  | 1 => .array .boolean
  | 2 => .array .int
  | 3 => .array .int
  | 4 => .int
  | 5 => .int
  | 6 => .array .int
  | 7 => .array .int
  | 8 => .array .int
  | 9 => .int
  | 10 => .array .int
  | 11 => .array .int
  | 12 => .array .int
  | 13 => .array .int
  | 14 => .array .int
  | 15 => .array .int
  | 16 => .array .int
  | 17 => .array .int
  | 18 => .array .int
  | 19 => .array .boolean
  | 20 => .array .int
  | 21 => .array .int
  | 22 => .array .boolean
  | 23 => .array .int
  | 24 => .array .int
  | 25 => .array .boolean
  | 26 => .array .int
  | 27 => .array .int
  | 28 => .array .int
  | 29 => .array .int
  | 30 => .array .int
  | 31 => .array .int
  | 32 => .array .int
  | _ => .array .int
theorem nmX8 : ∀ a, a < 34 → ∀ b, b < 34 → a ≠ b → (TX8 a).2.1 ≠ (TX8 b).2.1 := by decide +kernel
theorem tyX8_ok : ∀ k, k < 34 → parseFieldDescriptor (TX8 k).2.2.1 = some (tyX8 k) := by decide +kernel
abbrev cX8_init : ByteArray := prog_10_method_1_code
def yX8_init : MethodName := ⟨RX8, "<init>", "(I)V"⟩
abbrev cX8_in : ByteArray := prog_10_method_2_code
def yX8_in : MethodName := ⟨RX8, "in", "(III)Z"⟩
abbrev cX8_isBid : ByteArray := prog_10_method_3_code
def yX8_isBid : MethodName := ⟨RX8, "isBid", "(I)Z"⟩
abbrev cX8_section : ByteArray := prog_10_method_4_code
def yX8_section : MethodName := ⟨RX8, "section", "(IZII)Z"⟩
abbrev cX8_tracks : ByteArray := prog_10_method_5_code
def yX8_tracks : MethodName := ⟨RX8, "tracks", "(II)Z"⟩
abbrev cX8_headway : ByteArray := prog_10_method_6_code
def yX8_headway : MethodName := ⟨RX8, "headway", "(I)Z"⟩
abbrev cX8_works : ByteArray := prog_10_method_7_code
def yX8_works : MethodName := ⟨RX8, "works", "(III)Z"⟩
abbrev cX8_bid : ByteArray := prog_10_method_8_code
def yX8_bid : MethodName := ⟨RX8, "bid", "(IIII)I"⟩
abbrev cX8_link : ByteArray := prog_10_method_9_code
def yX8_link : MethodName := ⟨RX8, "link", "(II)Z"⟩
abbrev cX8_legs : ByteArray := prog_10_method_10_code
def yX8_legs : MethodName := ⟨RX8, "legs", "(I)I"⟩
abbrev cX8_stationOf : ByteArray := prog_10_method_11_code
def yX8_stationOf : MethodName := ⟨RX8, "stationOf", "(II)I"⟩
abbrev cX8_sectionOf : ByteArray := prog_10_method_12_code
def yX8_sectionOf : MethodName := ⟨RX8, "sectionOf", "(II)I"⟩
abbrev cX8_longOf : ByteArray := prog_10_method_13_code
def yX8_longOf : MethodName := ⟨RX8, "longOf", "(II)I"⟩
abbrev cX8_legOver : ByteArray := prog_10_method_14_code
def yX8_legOver : MethodName := ⟨RX8, "legOver", "(II)I"⟩
abbrev cX8_isSameWay : ByteArray := prog_10_method_15_code
def yX8_isSameWay : MethodName := ⟨RX8, "isSameWay", "(II)Z"⟩
abbrev cX8_isClosed : ByteArray := prog_10_method_16_code
def yX8_isClosed : MethodName := ⟨RX8, "isClosed", "(II)Z"⟩
abbrev cX8_behind : ByteArray := prog_10_method_17_code
def yX8_behind : MethodName := ⟨RX8, "behind", "()I"⟩
abbrev cX8_areApart : ByteArray := prog_10_method_18_code
def yX8_areApart : MethodName := ⟨RX8, "areApart", "(IIII)Z"⟩
abbrev cX8_canLeave : ByteArray := prog_10_method_19_code
def yX8_canLeave : MethodName := ⟨RX8, "canLeave", "(III)Z"⟩
abbrev cX8_comesTo : ByteArray := prog_10_method_20_code
def yX8_comesTo : MethodName := ⟨RX8, "comesTo", "(II)I"⟩
abbrev cX8_isStanding : ByteArray := prog_10_method_21_code
def yX8_isStanding : MethodName := ⟨RX8, "isStanding", "(III)Z"⟩
abbrev cX8_canStand : ByteArray := prog_10_method_22_code
def yX8_canStand : MethodName := ⟨RX8, "canStand", "(III)Z"⟩
abbrev cX8_seeks : ByteArray := prog_10_method_23_code
def yX8_seeks : MethodName := ⟨RX8, "seeks", "(I)Z"⟩
abbrev cX8_find : ByteArray := prog_10_method_24_code
def yX8_find : MethodName := ⟨RX8, "find", "(I)I"⟩
abbrev cX8_give : ByteArray := prog_10_method_25_code
def yX8_give : MethodName := ⟨RX8, "give", "(I)Z"⟩
abbrev cX8_drop : ByteArray := prog_10_method_26_code
def yX8_drop : MethodName := ⟨RX8, "drop", "(I)Z"⟩
abbrev cX8_isAhead : ByteArray := prog_10_method_27_code
def yX8_isAhead : MethodName := ⟨RX8, "isAhead", "(II)Z"⟩
abbrev cX8_ranks : ByteArray := prog_10_method_28_code
def yX8_ranks : MethodName := ⟨RX8, "ranks", "()V"⟩
abbrev cX8_goes : ByteArray := prog_10_method_29_code
def yX8_goes : MethodName := ⟨RX8, "goes", "()I"⟩
abbrev cX8_round : ByteArray := prog_10_method_30_code
def yX8_round : MethodName := ⟨RX8, "round", "()I"⟩
abbrev cX8_best : ByteArray := prog_10_method_31_code
def yX8_best : MethodName := ⟨RX8, "best", "()I"⟩
abbrev cX8_orders : ByteArray := prog_10_method_32_code
def yX8_orders : MethodName := ⟨RX8, "orders", "(I)V"⟩
abbrev cX8_path : ByteArray := prog_10_method_33_code
def yX8_path : MethodName := ⟨RX8, "path", "(II)I"⟩
abbrev cX8_isIn : ByteArray := prog_10_method_34_code
def yX8_isIn : MethodName := ⟨RX8, "isIn", "(III)Z"⟩
abbrev cX8_holds : ByteArray := prog_10_method_35_code
def yX8_holds : MethodName := ⟨RX8, "holds", "(III)Z"⟩
abbrev cX8_breaks : ByteArray := prog_10_method_36_code
def yX8_breaks : MethodName := ⟨RX8, "breaks", "(III)Z"⟩
abbrev cX8_why : ByteArray := prog_10_method_37_code
def yX8_why : MethodName := ⟨RX8, "why", "(I)I"⟩
abbrev cX8_delay : ByteArray := prog_10_method_38_code
def yX8_delay : MethodName := ⟨RX8, "delay", "(III)Z"⟩
abbrev cX8_runs : ByteArray := prog_10_method_39_code
def yX8_runs : MethodName := ⟨RX8, "runs", "()V"⟩
abbrev cX8_holder : ByteArray := prog_10_method_40_code
def yX8_holder : MethodName := ⟨RX8, "holder", "(III)I"⟩
abbrev cX8_steps : ByteArray := prog_10_method_41_code
def yX8_steps : MethodName := ⟨RX8, "steps", "(II)V"⟩
abbrev cX8_ran : ByteArray := prog_10_method_42_code
def yX8_ran : MethodName := ⟨RX8, "ran", "(II)I"⟩
abbrev cX8_blame : ByteArray := prog_10_method_43_code
def yX8_blame : MethodName := ⟨RX8, "blame", "(II)I"⟩
abbrev cX8_balance : ByteArray := prog_10_method_44_code
def yX8_balance : MethodName := ⟨RX8, "balance", "(I)I"⟩
abbrev cX8_count : ByteArray := prog_10_method_45_code
def yX8_count : MethodName := ⟨RX8, "count", "(I)I"⟩
def RJx145de : String := "java/io/Serializable"
def TJx145de : u_T := fun k => match k with
  | _ => ("", "", "", false)
def tyJx145de : Nat → FieldType := fun k => match k with
  | _ => .int
theorem nmJx145de : ∀ a, a < 0 → ∀ b, b < 0 → a ≠ b → (TJx145de a).2.1 ≠ (TJx145de b).2.1 := by decide +kernel
theorem tyJx145de_ok : ∀ k, k < 0 → parseFieldDescriptor (TJx145de k).2.2.1 = some (tyJx145de k) := by decide +kernel
def RJx8e188 : String := "java/lang/Cloneable"
def TJx8e188 : u_T := fun k => match k with
  | _ => ("", "", "", false)
def tyJx8e188 : Nat → FieldType := fun k => match k with
  | _ => .int
theorem nmJx8e188 : ∀ a, a < 0 → ∀ b, b < 0 → a ≠ b → (TJx8e188 a).2.1 ≠ (TJx8e188 b).2.1 := by decide +kernel
theorem tyJx8e188_ok : ∀ k, k < 0 → parseFieldDescriptor (TJx8e188 k).2.2.1 = some (tyJx8e188 k) := by decide +kernel
def RJxab1ab : String := "java/lang/Iterable"
def TJxab1ab : u_T := fun k => match k with
  | _ => ("", "", "", false)
def tyJxab1ab : Nat → FieldType := fun k => match k with
  | _ => .int
theorem nmJxab1ab : ∀ a, a < 0 → ∀ b, b < 0 → a ≠ b → (TJxab1ab a).2.1 ≠ (TJxab1ab b).2.1 := by decide +kernel
theorem tyJxab1ab_ok : ∀ k, k < 0 → parseFieldDescriptor (TJxab1ab k).2.2.1 = some (tyJxab1ab k) := by decide +kernel
def RJ9 : String := "java/lang/Math"
def TJ9 : u_T := fun k => match k with
  | _ => ("", "", "", false)
def tyJ9 : Nat → FieldType := fun k => match k with
  | _ => .int
theorem nmJ9 : ∀ a, a < 0 → ∀ b, b < 0 → a ≠ b → (TJ9 a).2.1 ≠ (TJ9 b).2.1 := by decide +kernel
theorem tyJ9_ok : ∀ k, k < 0 → parseFieldDescriptor (TJ9 k).2.2.1 = some (tyJ9 k) := by decide +kernel
abbrev cJ9_max_7cf53 : ByteArray := prog_14_method_65_code
def yJ9_max_7cf53 : MethodName := ⟨RJ9, "max", "(II)I"⟩
abbrev cJ9_min_7cf53 : ByteArray := prog_14_method_69_code
def yJ9_min_7cf53 : MethodName := ⟨RJ9, "min", "(II)I"⟩
def RJ10 : String := "java/lang/System"
def TJ10 : u_T := fun k => match k with
  | _ => ("", "", "", false)
def tyJ10 : Nat → FieldType := fun k => match k with
  | _ => .int
theorem nmJ10 : ∀ a, a < 0 → ∀ b, b < 0 → a ≠ b → (TJ10 a).2.1 ≠ (TJ10 b).2.1 := by decide +kernel
theorem tyJ10_ok : ∀ k, k < 0 → parseFieldDescriptor (TJ10 k).2.2.1 = some (tyJ10 k) := by decide +kernel
def RJxa1e45 : String := "java/util/AbstractCollection"
def TJxa1e45 : u_T := fun k => match k with
  | _ => ("", "", "", false)
def tyJxa1e45 : Nat → FieldType := fun k => match k with
  | _ => .int
theorem nmJxa1e45 : ∀ a, a < 0 → ∀ b, b < 0 → a ≠ b → (TJxa1e45 a).2.1 ≠ (TJxa1e45 b).2.1 := by decide +kernel
theorem tyJxa1e45_ok : ∀ k, k < 0 → parseFieldDescriptor (TJxa1e45 k).2.2.1 = some (tyJxa1e45 k) := by decide +kernel
abbrev cJxa1e45_init_da8c8 : ByteArray := prog_16_method_1_code
def yJxa1e45_init_da8c8 : MethodName := ⟨RJxa1e45, "<init>", "()V"⟩
def RJxc12de : String := "java/util/AbstractList"
def TJxc12de : u_T := fun k => match k with
  | _ => ("", "", "", false)
def tyJxc12de : Nat → FieldType := fun k => match k with
  | _ => .int
theorem nmJxc12de : ∀ a, a < 0 → ∀ b, b < 0 → a ≠ b → (TJxc12de a).2.1 ≠ (TJxc12de b).2.1 := by decide +kernel
theorem tyJxc12de_ok : ∀ k, k < 0 → parseFieldDescriptor (TJxc12de k).2.2.1 = some (tyJxc12de k) := by decide +kernel
abbrev cJxc12de_init_da8c8 : ByteArray := prog_17_method_1_code
def yJxc12de_init_da8c8 : MethodName := ⟨RJxc12de, "<init>", "()V"⟩
def RJx4a65c : String := "java/util/ArrayList"
def TJx4a65c : u_T := fun k => match k with
  | 0 => ("java/util/AbstractList", "modCount", "I", false)
  | 1 => ("java/util/ArrayList", "elementData", "[Ljava/lang/Object;", false)
  | _ => ("java/util/ArrayList", "size", "I", false)
def tyJx4a65c : Nat → FieldType := fun k => match k with
  | 0 => .int
  | 1 => .array (.object "java/lang/Object")
  | _ => .int
theorem nmJx4a65c : ∀ a, a < 3 → ∀ b, b < 3 → a ≠ b → (TJx4a65c a).2.1 ≠ (TJx4a65c b).2.1 := by decide +kernel
theorem tyJx4a65c_ok : ∀ k, k < 3 → parseFieldDescriptor (TJx4a65c k).2.2.1 = some (tyJx4a65c k) := by decide +kernel
abbrev cJx4a65c_init_da8c8 : ByteArray := prog_18_method_2_code
def yJx4a65c_init_da8c8 : MethodName := ⟨RJx4a65c, "<init>", "()V"⟩
abbrev cJx4a65c_grow_92f84 : ByteArray := prog_18_method_6_code
def yJx4a65c_grow_92f84 : MethodName := ⟨RJx4a65c, "grow", "(I)[Ljava/lang/Object;"⟩
abbrev cJx4a65c_grow_d5877 : ByteArray := prog_18_method_7_code
def yJx4a65c_grow_d5877 : MethodName := ⟨RJx4a65c, "grow", "()[Ljava/lang/Object;"⟩
abbrev cJx4a65c_size_8abf5 : ByteArray := prog_18_method_8_code
def yJx4a65c_size_8abf5 : MethodName := ⟨RJx4a65c, "size", "()I"⟩
abbrev cJx4a65c_elementData_915e3 : ByteArray := prog_18_method_18_code
def yJx4a65c_elementData_915e3 : MethodName := ⟨RJx4a65c, "elementData", "(I)Ljava/lang/Object;"⟩
abbrev cJx4a65c_get_915e3 : ByteArray := prog_18_method_20_code
def yJx4a65c_get_915e3 : MethodName := ⟨RJx4a65c, "get", "(I)Ljava/lang/Object;"⟩
abbrev cJx4a65c_add_72be8 : ByteArray := prog_18_method_24_code
def yJx4a65c_add_72be8 : MethodName := ⟨RJx4a65c, "add", "(Ljava/lang/Object;[Ljava/lang/Object;I)V"⟩
abbrev cJx4a65c_add_9ea2d : ByteArray := prog_18_method_25_code
def yJx4a65c_add_9ea2d : MethodName := ⟨RJx4a65c, "add", "(Ljava/lang/Object;)Z"⟩
abbrev cJx4a65c_add_7a177 : ByteArray := prog_18_method_26_code
def yJx4a65c_add_7a177 : MethodName := ⟨RJx4a65c, "add", "(ILjava/lang/Object;)V"⟩
abbrev cJx4a65c_rangeCheckForAdd_d00df : ByteArray := prog_18_method_45_code
def yJx4a65c_rangeCheckForAdd_d00df : MethodName := ⟨RJx4a65c, "rangeCheckForAdd", "(I)V"⟩
def RJ7 : String := "java/util/Arrays"
def TJ7 : u_T := fun k => match k with
  | _ => ("", "", "", false)
def tyJ7 : Nat → FieldType := fun k => match k with
  | _ => .int
theorem nmJ7 : ∀ a, a < 0 → ∀ b, b < 0 → a ≠ b → (TJ7 a).2.1 ≠ (TJ7 b).2.1 := by decide +kernel
theorem tyJ7_ok : ∀ k, k < 0 → parseFieldDescriptor (TJ7 k).2.2.1 = some (tyJ7 k) := by decide +kernel
abbrev cJ7_copyOf_1904c : ByteArray := prog_19_method_119_code
def yJ7_copyOf_1904c : MethodName := ⟨RJ7, "copyOf", "([Ljava/lang/Object;I)[Ljava/lang/Object;"⟩
abbrev cJ7_copyOf_6403c : ByteArray := prog_19_method_120_code
def yJ7_copyOf_6403c : MethodName := ⟨RJ7, "copyOf", "([Ljava/lang/Object;ILjava/lang/Class;)[Ljava/lang/Object;"⟩
def RJx5ef63 : String := "java/util/Collection"
def TJx5ef63 : u_T := fun k => match k with
  | _ => ("", "", "", false)
def tyJx5ef63 : Nat → FieldType := fun k => match k with
  | _ => .int
theorem nmJx5ef63 : ∀ a, a < 0 → ∀ b, b < 0 → a ≠ b → (TJx5ef63 a).2.1 ≠ (TJx5ef63 b).2.1 := by decide +kernel
theorem tyJx5ef63_ok : ∀ k, k < 0 → parseFieldDescriptor (TJx5ef63 k).2.2.1 = some (tyJx5ef63 k) := by decide +kernel
def RJxbd725 : String := "java/util/List"
def TJxbd725 : u_T := fun k => match k with
  | _ => ("", "", "", false)
def tyJxbd725 : Nat → FieldType := fun k => match k with
  | _ => .int
theorem nmJxbd725 : ∀ a, a < 0 → ∀ b, b < 0 → a ≠ b → (TJxbd725 a).2.1 ≠ (TJxbd725 b).2.1 := by decide +kernel
theorem tyJxbd725_ok : ∀ k, k < 0 → parseFieldDescriptor (TJxbd725 k).2.2.1 = some (tyJxbd725 k) := by decide +kernel
def RJ15 : String := "java/util/Objects"
def TJ15 : u_T := fun k => match k with
  | _ => ("", "", "", false)
def tyJ15 : Nat → FieldType := fun k => match k with
  | _ => .int
theorem nmJ15 : ∀ a, a < 0 → ∀ b, b < 0 → a ≠ b → (TJ15 a).2.1 ≠ (TJ15 b).2.1 := by decide +kernel
theorem tyJ15_ok : ∀ k, k < 0 → parseFieldDescriptor (TJ15 k).2.2.1 = some (tyJ15 k) := by decide +kernel
abbrev cJ15_checkIndex_7cf53 : ByteArray := prog_22_method_17_code
def yJ15_checkIndex_7cf53 : MethodName := ⟨RJ15, "checkIndex", "(II)I"⟩
def RJxf0a74 : String := "java/util/RandomAccess"
def TJxf0a74 : u_T := fun k => match k with
  | _ => ("", "", "", false)
def tyJxf0a74 : Nat → FieldType := fun k => match k with
  | _ => .int
theorem nmJxf0a74 : ∀ a, a < 0 → ∀ b, b < 0 → a ≠ b → (TJxf0a74 a).2.1 ≠ (TJxf0a74 b).2.1 := by decide +kernel
theorem tyJxf0a74_ok : ∀ k, k < 0 → parseFieldDescriptor (TJxf0a74 k).2.2.1 = some (tyJxf0a74 k) := by decide +kernel
def RJxa66e6 : String := "java/util/SequencedCollection"
def TJxa66e6 : u_T := fun k => match k with
  | _ => ("", "", "", false)
def tyJxa66e6 : Nat → FieldType := fun k => match k with
  | _ => .int
theorem nmJxa66e6 : ∀ a, a < 0 → ∀ b, b < 0 → a ≠ b → (TJxa66e6 a).2.1 ≠ (TJxa66e6 b).2.1 := by decide +kernel
theorem tyJxa66e6_ok : ∀ k, k < 0 → parseFieldDescriptor (TJxa66e6 k).2.2.1 = some (tyJxa66e6 k) := by decide +kernel
def RJ8 : String := "jdk/internal/util/ArraysSupport"
def TJ8 : u_T := fun k => match k with
  | _ => ("", "", "", false)
def tyJ8 : Nat → FieldType := fun k => match k with
  | _ => .int
theorem nmJ8 : ∀ a, a < 0 → ∀ b, b < 0 → a ≠ b → (TJ8 a).2.1 ≠ (TJ8 b).2.1 := by decide +kernel
theorem tyJ8_ok : ∀ k, k < 0 → parseFieldDescriptor (TJ8 k).2.2.1 = some (tyJ8 k) := by decide +kernel
abbrev cJ8_newLength_cabcc : ByteArray := prog_25_method_27_code
def yJ8_newLength_cabcc : MethodName := ⟨RJ8, "newLength", "(III)I"⟩
abbrev cJ8_hugeLength_7cf53 : ByteArray := prog_25_method_28_code
def yJ8_hugeLength_7cf53 : MethodName := ⟨RJ8, "hugeLength", "(II)I"⟩
def RJ3 : String := "jdk/internal/util/Preconditions"
def TJ3 : u_T := fun k => match k with
  | _ => ("", "", "", false)
def tyJ3 : Nat → FieldType := fun k => match k with
  | _ => .int
theorem nmJ3 : ∀ a, a < 0 → ∀ b, b < 0 → a ≠ b → (TJ3 a).2.1 ≠ (TJ3 b).2.1 := by decide +kernel
theorem tyJ3_ok : ∀ k, k < 0 → parseFieldDescriptor (TJ3 k).2.2.1 = some (tyJ3 k) := by decide +kernel
abbrev cJ3_checkIndex_8e157 : ByteArray := prog_26_method_11_code
def yJ3_checkIndex_8e157 : MethodName := ⟨RJ3, "checkIndex", "(IILjava/util/function/BiFunction;)I"⟩
def RL : String := "FreightPathsLaw"
abbrev cL_cell : ByteArray := method_2_code
def yL_cell : MethodName := ⟨RL, "cell", "([II)I"⟩
abbrev cL_law : ByteArray := code
def yL_law : MethodName := ⟨RL, "law", "([I)Z"⟩
abbrev vwCl : List vw_C := [(RJx4a65c, TJx4a65c, 3), (RX0, TX0, 14), (RX1, TX1, 2), (RX2, TX2, 5), (RX3, TX3, 10), (RX4, TX4, 7), (RX5, TX5, 7), (RX6, TX6, 11), (RX7, TX7, 6), (RX8, TX8, 34)]
