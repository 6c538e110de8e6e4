def RX0 : String := "LoafMarket$Auction"
def TX0 : u_T := fun k => match k with
  | 0 => ("LoafMarket$Auction", "bids", "I", false)
  | 1 => ("LoafMarket$Auction", "bidder", "[I", true)
  | 2 => ("LoafMarket$Auction", "amount", "[I", true)
  | 3 => ("LoafMarket$Auction", "loaves", "I", false)
  | 4 => ("LoafMarket$Auction", "loaf", "[I", true)
  | 5 => ("LoafMarket$Auction", "asked", "[I", true)
  | 6 => ("LoafMarket$Auction", "trades", "I", false)
  | _ => ("LoafMarket$Auction", "price", "I", false)
def tyX0 : Nat → FieldType := fun k => match k with
  | 0 => .int
  | 1 => .array .int
  | 2 => .array .int
  | 3 => .int
  | 4 => .array .int
  | 5 => .array .int
  | 6 => .int
  | _ => .int
theorem nmX0 : ∀ a, a < 8 → ∀ b, b < 8 → a ≠ b → (TX0 a).2.1 ≠ (TX0 b).2.1 := by decide +kernel
theorem tyX0_ok : ∀ k, k < 8 → parseFieldDescriptor (TX0 k).2.2.1 = some (tyX0 k) := by decide +kernel
abbrev cX0_init : ByteArray := prog_2_method_1_code
def yX0_init : MethodName := ⟨RX0, "<init>", "()V"⟩
abbrev cX0_prepare : ByteArray := prog_2_method_2_code
def yX0_prepare : MethodName := ⟨RX0, "prepare", "(LLoafMarket$State;I)V"⟩
abbrev cX0_hold : ByteArray := prog_2_method_3_code
def yX0_hold : MethodName := ⟨RX0, "hold", "(LLoafMarket$State;I)V"⟩
abbrev cX0_sell : ByteArray := prog_2_method_6_code
def yX0_sell : MethodName := ⟨RX0, "sell", "(LLoafMarket$State;III)V"⟩
abbrev cX0_priceOfTrades : ByteArray := prog_2_method_7_code
def yX0_priceOfTrades : MethodName := ⟨RX0, "priceOfTrades", "()I"⟩
abbrev cX0_insertBids : ByteArray := prog_2_method_8_code
def yX0_insertBids : MethodName := ⟨RX0, "insertBids", "(III)V"⟩
def RX1 : String := "LoafMarket$Bakers"
def TX1 : u_T := fun k => match k with
  | 0 => ("LoafMarket$Bakers", "count", "I", false)
  | 1 => ("LoafMarket$Bakers", "name", "[I", true)
  | 2 => ("LoafMarket$Bakers", "oven", "[I", true)
  | 3 => ("LoafMarket$Bakers", "time", "[I", true)
  | 4 => ("LoafMarket$Bakers", "kind", "[I", true)
  | 5 => ("LoafMarket$Bakers", "left", "[I", true)
  | _ => ("LoafMarket$Bakers", "earned", "[I", true)
def tyX1 : Nat → FieldType := fun k => match k with
  | 0 => .int
  | 1 => .array .int
  | 2 => .array .int
  | 3 => .array .int
  | 4 => .array .int
  | 5 => .array .int
  | _ => .array .int
theorem nmX1 : ∀ a, a < 7 → ∀ b, b < 7 → a ≠ b → (TX1 a).2.1 ≠ (TX1 b).2.1 := by decide +kernel
theorem tyX1_ok : ∀ k, k < 7 → parseFieldDescriptor (TX1 k).2.2.1 = some (tyX1 k) := by decide +kernel
abbrev cX1_init : ByteArray := prog_3_method_1_code
def yX1_init : MethodName := ⟨RX1, "<init>", "()V"⟩
abbrev cX1_copyFrom : ByteArray := prog_3_method_2_code
def yX1_copyFrom : MethodName := ⟨RX1, "copyFrom", "(LLoafMarket$Bakers;)V"⟩
abbrev cX1_add : ByteArray := prog_3_method_3_code
def yX1_add : MethodName := ⟨RX1, "add", "(III)V"⟩
abbrev cX1_begin : ByteArray := prog_3_method_4_code
def yX1_begin : MethodName := ⟨RX1, "begin", "(II)V"⟩
abbrev cX1_rest : ByteArray := prog_3_method_5_code
def yX1_rest : MethodName := ⟨RX1, "rest", "(I)V"⟩
abbrev cX1_earn : ByteArray := prog_3_method_6_code
def yX1_earn : MethodName := ⟨RX1, "earn", "(II)V"⟩
abbrev cX1_loavesInOvens : ByteArray := prog_3_method_7_code
def yX1_loavesInOvens : MethodName := ⟨RX1, "loavesInOvens", "()I"⟩
def RX2 : String := "LoafMarket$Customers"
def TX2 : u_T := fun k => match k with
  | 0 => ("LoafMarket$Customers", "count", "I", false)
  | 1 => ("LoafMarket$Customers", "nextTicket", "I", false)
  | 2 => ("LoafMarket$Customers", "name", "[I", true)
  | 3 => ("LoafMarket$Customers", "ticket", "[I", true)
  | 4 => ("LoafMarket$Customers", "kind", "[I", true)
  | 5 => ("LoafMarket$Customers", "wanted", "[I", true)
  | 6 => ("LoafMarket$Customers", "limit", "[I", true)
  | 7 => ("LoafMarket$Customers", "purse", "[I", true)
  | _ => ("LoafMarket$Customers", "patience", "[I", true)
def tyX2 : Nat → FieldType := fun k => match k with
  | 0 => .int
  | 1 => .int
  | 2 => .array .int
  | 3 => .array .int
  | 4 => .array .int
  | 5 => .array .int
  | 6 => .array .int
  | 7 => .array .int
  | _ => .array .int
theorem nmX2 : ∀ a, a < 9 → ∀ b, b < 9 → a ≠ b → (TX2 a).2.1 ≠ (TX2 b).2.1 := by decide +kernel
theorem tyX2_ok : ∀ k, k < 9 → parseFieldDescriptor (TX2 k).2.2.1 = some (tyX2 k) := by decide +kernel
abbrev cX2_init : ByteArray := prog_4_method_1_code
def yX2_init : MethodName := ⟨RX2, "<init>", "()V"⟩
abbrev cX2_copyFrom : ByteArray := prog_4_method_2_code
def yX2_copyFrom : MethodName := ⟨RX2, "copyFrom", "(LLoafMarket$Customers;)V"⟩
abbrev cX2_add : ByteArray := prog_4_method_3_code
def yX2_add : MethodName := ⟨RX2, "add", "(IIIIII)I"⟩
abbrev cX2_pay : ByteArray := prog_4_method_4_code
def yX2_pay : MethodName := ⟨RX2, "pay", "(II)V"⟩
abbrev cX2_bidsOf : ByteArray := prog_4_method_5_code
def yX2_bidsOf : MethodName := ⟨RX2, "bidsOf", "(II)I"⟩
abbrev cX2_closeGaps : ByteArray := prog_4_method_6_code
def yX2_closeGaps : MethodName := ⟨RX2, "closeGaps", "()V"⟩
abbrev cX2_move : ByteArray := prog_4_method_7_code
def yX2_move : MethodName := ⟨RX2, "move", "(II)V"⟩
def RX3 : String := "LoafMarket$Events"
def TX3 : u_T := fun k => match k with
  | 0 => ("LoafMarket$Events", "count", "I", false)
  | 1 => ("LoafMarket$Events", "type", "[I", true)
  | 2 => ("LoafMarket$Events", "first", "[I", true)
  | _ => ("LoafMarket$Events", "second", "[I", true)
def tyX3 : Nat → FieldType := fun k => match k with
  | 0 => .int
  | 1 => .array .int
  | 2 => .array .int
  | _ => .array .int
theorem nmX3 : ∀ a, a < 4 → ∀ b, b < 4 → a ≠ b → (TX3 a).2.1 ≠ (TX3 b).2.1 := by decide +kernel
theorem tyX3_ok : ∀ k, k < 4 → parseFieldDescriptor (TX3 k).2.2.1 = some (tyX3 k) := by decide +kernel
abbrev cX3_init : ByteArray := prog_5_method_1_code
def yX3_init : MethodName := ⟨RX3, "<init>", "()V"⟩
abbrev cX3_copyFrom : ByteArray := prog_5_method_2_code
def yX3_copyFrom : MethodName := ⟨RX3, "copyFrom", "(LLoafMarket$Events;)V"⟩
abbrev cX3_add : ByteArray := prog_5_method_3_code
def yX3_add : MethodName := ⟨RX3, "add", "(III)V"⟩
def RX4 : String := "LoafMarket$Loader"
def TX4 : u_T := fun k => match k with
  | 0 => ("LoafMarket$Loader", "tokens", "LLoafMarket$Tokens;", true)
  | 1 => ("LoafMarket$Loader", "auction", "LLoafMarket$Auction;", true)
  | 2 => ("LoafMarket$Loader", "error", "I", false)
  | _ => ("LoafMarket$Loader", "errorPosition", "I", false)
def tyX4 : Nat → FieldType := fun k => match k with
  | 0 => .object "LoafMarket$Tokens"
  | 1 => .object "LoafMarket$Auction"
  | 2 => .int
  | _ => .int
theorem nmX4 : ∀ a, a < 4 → ∀ b, b < 4 → a ≠ b → (TX4 a).2.1 ≠ (TX4 b).2.1 := by decide +kernel
theorem tyX4_ok : ∀ k, k < 4 → parseFieldDescriptor (TX4 k).2.2.1 = some (tyX4 k) := by decide +kernel
abbrev cX4_init : ByteArray := prog_6_method_1_code
def yX4_init : MethodName := ⟨RX4, "<init>", "([BLLoafMarket$Auction;)V"⟩
abbrev cX4_read : ByteArray := prog_6_method_2_code
def yX4_read : MethodName := ⟨RX4, "read", "(ILLoafMarket$State;)V"⟩
abbrev cX4_marketStatement : ByteArray := prog_6_method_3_code
def yX4_marketStatement : MethodName := ⟨RX4, "marketStatement", "(LLoafMarket$State;)V"⟩
abbrev cX4_bakerStatement : ByteArray := prog_6_method_4_code
def yX4_bakerStatement : MethodName := ⟨RX4, "bakerStatement", "(LLoafMarket$State;)V"⟩
abbrev cX4_bakeStatement : ByteArray := prog_6_method_5_code
def yX4_bakeStatement : MethodName := ⟨RX4, "bakeStatement", "(LLoafMarket$State;)V"⟩
abbrev cX4_customerStatement : ByteArray := prog_6_method_6_code
def yX4_customerStatement : MethodName := ⟨RX4, "customerStatement", "(LLoafMarket$State;)V"⟩
abbrev cX4_auctionStatement : ByteArray := prog_6_method_7_code
def yX4_auctionStatement : MethodName := ⟨RX4, "auctionStatement", "(LLoafMarket$State;)V"⟩
abbrev cX4_sparrowsStatement : ByteArray := prog_6_method_8_code
def yX4_sparrowsStatement : MethodName := ⟨RX4, "sparrowsStatement", "(LLoafMarket$State;)V"⟩
abbrev cX4_hoursStatement : ByteArray := prog_6_method_9_code
def yX4_hoursStatement : MethodName := ⟨RX4, "hoursStatement", "(LLoafMarket$State;)V"⟩
abbrev cX4_fail : ByteArray := prog_6_method_10_code
def yX4_fail : MethodName := ⟨RX4, "fail", "(I)V"⟩
abbrev cX4_semicolon : ByteArray := prog_6_method_11_code
def yX4_semicolon : MethodName := ⟨RX4, "semicolon", "()V"⟩
abbrev cX4_number : ByteArray := prog_6_method_12_code
def yX4_number : MethodName := ⟨RX4, "number", "(II)I"⟩
abbrev cX4_kind : ByteArray := prog_6_method_13_code
def yX4_kind : MethodName := ⟨RX4, "kind", "()I"⟩
abbrev cX4_newName : ByteArray := prog_6_method_14_code
def yX4_newName : MethodName := ⟨RX4, "newName", "(LLoafMarket$State;)I"⟩
abbrev cX4_knownBaker : ByteArray := prog_6_method_15_code
def yX4_knownBaker : MethodName := ⟨RX4, "knownBaker", "(LLoafMarket$Bakers;)I"⟩
def RX5 : String := "LoafMarket$State"
def TX5 : u_T := fun k => match k with
  | 0 => ("LoafMarket$State", "base", "[I", true)
  | 1 => ("LoafMarket$State", "bakers", "LLoafMarket$Bakers;", true)
  | 2 => ("LoafMarket$State", "stock", "LLoafMarket$Stock;", true)
  | 3 => ("LoafMarket$State", "customers", "LLoafMarket$Customers;", true)
  | 4 => ("LoafMarket$State", "events", "LLoafMarket$Events;", true)
  | 5 => ("LoafMarket$State", "hour", "I", false)
  | 6 => ("LoafMarket$State", "crumbs", "I", false)
  | 7 => ("LoafMarket$State", "sparrows", "I", false)
  | 8 => ("LoafMarket$State", "bakedLoaves", "I", false)
  | 9 => ("LoafMarket$State", "soldLoaves", "I", false)
  | 10 => ("LoafMarket$State", "wastedLoaves", "I", false)
  | 11 => ("LoafMarket$State", "joinedCoins", "I", false)
  | _ => ("LoafMarket$State", "leftCoins", "I", false)
def tyX5 : Nat → FieldType := fun k => match k with
  | 0 => .array .int
  | 1 => .object "LoafMarket$Bakers"
  | 2 => .object "LoafMarket$Stock"
  | 3 => .object "LoafMarket$Customers"
  | 4 => .object "LoafMarket$Events"
  | 5 => .int
  | 6 => .int
  | 7 => .int
  | 8 => .int
  | 9 => .int
  | 10 => .int
  | 11 => .int
  | _ => .int
theorem nmX5 : ∀ a, a < 13 → ∀ b, b < 13 → a ≠ b → (TX5 a).2.1 ≠ (TX5 b).2.1 := by decide +kernel
theorem tyX5_ok : ∀ k, k < 13 → parseFieldDescriptor (TX5 k).2.2.1 = some (tyX5 k) := by decide +kernel
abbrev cX5_init : ByteArray := prog_7_method_1_code
def yX5_init : MethodName := ⟨RX5, "<init>", "()V"⟩
abbrev cX5_clear : ByteArray := prog_7_method_2_code
def yX5_clear : MethodName := ⟨RX5, "clear", "()V"⟩
abbrev cX5_copyFrom : ByteArray := prog_7_method_3_code
def yX5_copyFrom : MethodName := ⟨RX5, "copyFrom", "(LLoafMarket$State;)V"⟩
abbrev cX5_baseOf : ByteArray := prog_7_method_4_code
def yX5_baseOf : MethodName := ⟨RX5, "baseOf", "(I)I"⟩
abbrev cX5_ageOf : ByteArray := prog_7_method_5_code
def yX5_ageOf : MethodName := ⟨RX5, "ageOf", "(I)I"⟩
abbrev cX5_reserveOf : ByteArray := prog_7_method_6_code
def yX5_reserveOf : MethodName := ⟨RX5, "reserveOf", "(I)I"⟩
abbrev cX5_hasName : ByteArray := prog_7_method_7_code
def yX5_hasName : MethodName := ⟨RX5, "hasName", "(I)Z"⟩
abbrev cX5_refusal : ByteArray := prog_7_method_8_code
def yX5_refusal : MethodName := ⟨RX5, "refusal", "(I)I"⟩
abbrev cX5_welcome : ByteArray := prog_7_method_9_code
def yX5_welcome : MethodName := ⟨RX5, "welcome", "(IIIIII)I"⟩
abbrev cX5_dismiss : ByteArray := prog_7_method_10_code
def yX5_dismiss : MethodName := ⟨RX5, "dismiss", "(II)V"⟩
abbrev cX5_passHour : ByteArray := prog_7_method_11_code
def yX5_passHour : MethodName := ⟨RX5, "passHour", "()V"⟩
abbrev cX5_emptyOvens : ByteArray := prog_7_method_12_code
def yX5_emptyOvens : MethodName := ⟨RX5, "emptyOvens", "()V"⟩
abbrev cX5_throwOutStale : ByteArray := prog_7_method_13_code
def yX5_throwOutStale : MethodName := ⟨RX5, "throwOutStale", "()V"⟩
abbrev cX5_feedSparrows : ByteArray := prog_7_method_14_code
def yX5_feedSparrows : MethodName := ⟨RX5, "feedSparrows", "()V"⟩
abbrev cX5_loseOnePatience : ByteArray := prog_7_method_15_code
def yX5_loseOnePatience : MethodName := ⟨RX5, "loseOnePatience", "()V"⟩
def RX6 : String := "LoafMarket$Stock"
def TX6 : u_T := fun k => match k with
  | 0 => ("LoafMarket$Stock", "count", "I", false)
  | 1 => ("LoafMarket$Stock", "kind", "[I", true)
  | 2 => ("LoafMarket$Stock", "baker", "[I", true)
  | _ => ("LoafMarket$Stock", "born", "[I", true)
def tyX6 : Nat → FieldType := fun k => match k with
  | 0 => .int
  | 1 => .array .int
  | 2 => .array .int
  | _ => .array .int
theorem nmX6 : ∀ a, a < 4 → ∀ b, b < 4 → a ≠ b → (TX6 a).2.1 ≠ (TX6 b).2.1 := by decide +kernel
theorem tyX6_ok : ∀ k, k < 4 → parseFieldDescriptor (TX6 k).2.2.1 = some (tyX6 k) := by decide +kernel
abbrev cX6_init : ByteArray := prog_8_method_1_code
def yX6_init : MethodName := ⟨RX6, "<init>", "()V"⟩
abbrev cX6_copyFrom : ByteArray := prog_8_method_2_code
def yX6_copyFrom : MethodName := ⟨RX6, "copyFrom", "(LLoafMarket$Stock;)V"⟩
abbrev cX6_add : ByteArray := prog_8_method_3_code
def yX6_add : MethodName := ⟨RX6, "add", "(IIII)V"⟩
abbrev cX6_closeGaps : ByteArray := prog_8_method_4_code
def yX6_closeGaps : MethodName := ⟨RX6, "closeGaps", "()V"⟩
def RX7 : String := "LoafMarket$Tokens"
def TX7 : u_T := fun k => match k with
  | 0 => ("LoafMarket$Tokens", "text", "[B", true)
  | 1 => ("LoafMarket$Tokens", "length", "I", false)
  | 2 => ("LoafMarket$Tokens", "type", "I", false)
  | 3 => ("LoafMarket$Tokens", "start", "I", false)
  | _ => ("LoafMarket$Tokens", "end", "I", false)
def tyX7 : Nat → FieldType := fun k => match k with
  | 0 => .array .byte
  | 1 => .int
  | 2 => .int
  | 3 => .int
  | _ => .int
theorem nmX7 : ∀ a, a < 5 → ∀ b, b < 5 → a ≠ b → (TX7 a).2.1 ≠ (TX7 b).2.1 := by decide +kernel
theorem tyX7_ok : ∀ k, k < 5 → parseFieldDescriptor (TX7 k).2.2.1 = some (tyX7 k) := by decide +kernel
abbrev cX7_init : ByteArray := prog_9_method_1_code
def yX7_init : MethodName := ⟨RX7, "<init>", "([B)V"⟩
abbrev cX7_begin : ByteArray := prog_9_method_2_code
def yX7_begin : MethodName := ⟨RX7, "begin", "(I)V"⟩
abbrev cX7_next : ByteArray := prog_9_method_3_code
def yX7_next : MethodName := ⟨RX7, "next", "()V"⟩
abbrev cX7_isWord : ByteArray := prog_9_method_4_code
def yX7_isWord : MethodName := ⟨RX7, "isWord", "(Ljava/lang/String;)Z"⟩
abbrev cX7_isSemicolon : ByteArray := prog_9_method_5_code
def yX7_isSemicolon : MethodName := ⟨RX7, "isSemicolon", "()Z"⟩
abbrev cX7_name : ByteArray := prog_9_method_6_code
def yX7_name : MethodName := ⟨RX7, "name", "()I"⟩
abbrev cX7_value : ByteArray := prog_9_method_7_code
def yX7_value : MethodName := ⟨RX7, "value", "()I"⟩
def RX8 : String := "LoafMarket"
def TX8 : u_T := fun k => match k with
  | 0 => ("LoafMarket", "state", "LLoafMarket$State;", true)
  | 1 => ("LoafMarket", "scratch", "LLoafMarket$State;", true)
  | 2 => ("LoafMarket", "plan", "LLoafMarket$Auction;", true)
  | 3 => ("LoafMarket", "input", "[B", true)
  | 4 => ("LoafMarket", "loader", "LLoafMarket$Loader;", true)
  | 5 => ("LoafMarket", "output", "[B", true)
  | 6 => ("LoafMarket", "slots", "[LLoafMarket$State;", true)
  | 7 => ("LoafMarket", "past", "[LLoafMarket$State;", true)
  | 8 => ("LoafMarket", "pastCount", "I", false)
  | 9 => ("LoafMarket", "inputLength", "I", false)
  | 10 => ("LoafMarket", "outputLength", "I", false)
  | 11 => ("LoafMarket", "latestError", "I", false)
  | _ => ("LoafMarket", "latestErrorPosition", "I", false)
def tyX8 : Nat → FieldType := fun k => match k with
  | 0 => .object "LoafMarket$State"
  | 1 => .object "LoafMarket$State"
  | 2 => .object "LoafMarket$Auction"
  | 3 => .array .byte
  | 4 => .object "LoafMarket$Loader"
  | 5 => .array .byte
  | 6 => .array (.object "LoafMarket$State")
  | 7 => .array (.object "LoafMarket$State")
  | 8 => .int
  | 9 => .int
  | 10 => .int
  | 11 => .int
  | _ => .int
theorem nmX8 : ∀ a, a < 13 → ∀ b, b < 13 → a ≠ b → (TX8 a).2.1 ≠ (TX8 b).2.1 := by decide +kernel
theorem tyX8_ok : ∀ k, k < 13 → parseFieldDescriptor (TX8 k).2.2.1 = some (tyX8 k) := by decide +kernel
abbrev cX8_init : ByteArray := prog_1_method_1_code
def yX8_init : MethodName := ⟨RX8, "<init>", "()V"⟩
abbrev cX8_appendInput : ByteArray := prog_1_method_2_code
def yX8_appendInput : MethodName := ⟨RX8, "appendInput", "(IIIII)I"⟩
abbrev cX8_truncateInput : ByteArray := prog_1_method_3_code
def yX8_truncateInput : MethodName := ⟨RX8, "truncateInput", "(I)I"⟩
abbrev cX8_load : ByteArray := prog_1_method_4_code
def yX8_load : MethodName := ⟨RX8, "load", "()I"⟩
abbrev cX8_errorCode : ByteArray := prog_1_method_5_code
def yX8_errorCode : MethodName := ⟨RX8, "errorCode", "()I"⟩
abbrev cX8_hour : ByteArray := prog_1_method_7_code
def yX8_hour : MethodName := ⟨RX8, "hour", "()I"⟩
abbrev cX8_customerCount : ByteArray := prog_1_method_9_code
def yX8_customerCount : MethodName := ⟨RX8, "customerCount", "()I"⟩
abbrev cX8_loafCount : ByteArray := prog_1_method_10_code
def yX8_loafCount : MethodName := ⟨RX8, "loafCount", "()I"⟩
abbrev cX8_crumbs : ByteArray := prog_1_method_11_code
def yX8_crumbs : MethodName := ⟨RX8, "crumbs", "()I"⟩
abbrev cX8_sparrows : ByteArray := prog_1_method_12_code
def yX8_sparrows : MethodName := ⟨RX8, "sparrows", "()I"⟩
abbrev cX8_ovenSize : ByteArray := prog_1_method_14_code
def yX8_ovenSize : MethodName := ⟨RX8, "ovenSize", "(I)I"⟩
abbrev cX8_bakingKind : ByteArray := prog_1_method_15_code
def yX8_bakingKind : MethodName := ⟨RX8, "bakingKind", "(I)I"⟩
abbrev cX8_hoursLeft : ByteArray := prog_1_method_16_code
def yX8_hoursLeft : MethodName := ⟨RX8, "hoursLeft", "(I)I"⟩
abbrev cX8_income : ByteArray := prog_1_method_17_code
def yX8_income : MethodName := ⟨RX8, "income", "(I)I"⟩
abbrev cX8_ticketOf : ByteArray := prog_1_method_20_code
def yX8_ticketOf : MethodName := ⟨RX8, "ticketOf", "(I)I"⟩
abbrev cX8_kindWanted : ByteArray := prog_1_method_21_code
def yX8_kindWanted : MethodName := ⟨RX8, "kindWanted", "(I)I"⟩
abbrev cX8_wanted : ByteArray := prog_1_method_22_code
def yX8_wanted : MethodName := ⟨RX8, "wanted", "(I)I"⟩
abbrev cX8_limitPrice : ByteArray := prog_1_method_23_code
def yX8_limitPrice : MethodName := ⟨RX8, "limitPrice", "(I)I"⟩
abbrev cX8_purse : ByteArray := prog_1_method_24_code
def yX8_purse : MethodName := ⟨RX8, "purse", "(I)I"⟩
abbrev cX8_patience : ByteArray := prog_1_method_25_code
def yX8_patience : MethodName := ⟨RX8, "patience", "(I)I"⟩
abbrev cX8_customerWithTicket : ByteArray := prog_1_method_26_code
def yX8_customerWithTicket : MethodName := ⟨RX8, "customerWithTicket", "(I)I"⟩
abbrev cX8_loafKind : ByteArray := prog_1_method_27_code
def yX8_loafKind : MethodName := ⟨RX8, "loafKind", "(I)I"⟩
abbrev cX8_loafBaker : ByteArray := prog_1_method_28_code
def yX8_loafBaker : MethodName := ⟨RX8, "loafBaker", "(I)I"⟩
abbrev cX8_loafAge : ByteArray := prog_1_method_29_code
def yX8_loafAge : MethodName := ⟨RX8, "loafAge", "(I)I"⟩
abbrev cX8_reservePrice : ByteArray := prog_1_method_30_code
def yX8_reservePrice : MethodName := ⟨RX8, "reservePrice", "(I)I"⟩
abbrev cX8_basePrice : ByteArray := prog_1_method_32_code
def yX8_basePrice : MethodName := ⟨RX8, "basePrice", "(I)I"⟩
abbrev cX8_eventCount : ByteArray := prog_1_method_41_code
def yX8_eventCount : MethodName := ⟨RX8, "eventCount", "()I"⟩
abbrev cX8_eventType : ByteArray := prog_1_method_42_code
def yX8_eventType : MethodName := ⟨RX8, "eventType", "(I)I"⟩
abbrev cX8_eventFirst : ByteArray := prog_1_method_43_code
def yX8_eventFirst : MethodName := ⟨RX8, "eventFirst", "(I)I"⟩
abbrev cX8_eventSecond : ByteArray := prog_1_method_44_code
def yX8_eventSecond : MethodName := ⟨RX8, "eventSecond", "(I)I"⟩
abbrev cX8_moneyDifference : ByteArray := prog_1_method_45_code
def yX8_moneyDifference : MethodName := ⟨RX8, "moneyDifference", "()I"⟩
abbrev cX8_loafDifference : ByteArray := prog_1_method_46_code
def yX8_loafDifference : MethodName := ⟨RX8, "loafDifference", "()I"⟩
abbrev cX8_bake : ByteArray := prog_1_method_53_code
def yX8_bake : MethodName := ⟨RX8, "bake", "(II)I"⟩
abbrev cX8_auction : ByteArray := prog_1_method_54_code
def yX8_auction : MethodName := ⟨RX8, "auction", "(I)I"⟩
abbrev cX8_joinQueue : ByteArray := prog_1_method_55_code
def yX8_joinQueue : MethodName := ⟨RX8, "joinQueue", "(IIIII)I"⟩
abbrev cX8_sendAway : ByteArray := prog_1_method_56_code
def yX8_sendAway : MethodName := ⟨RX8, "sendAway", "(I)I"⟩
abbrev cX8_setBasePrice : ByteArray := prog_1_method_57_code
def yX8_setBasePrice : MethodName := ⟨RX8, "setBasePrice", "(II)I"⟩
abbrev cX8_scatter : ByteArray := prog_1_method_58_code
def yX8_scatter : MethodName := ⟨RX8, "scatter", "(I)I"⟩
abbrev cX8_passHours : ByteArray := prog_1_method_59_code
def yX8_passHours : MethodName := ⟨RX8, "passHours", "(I)I"⟩
abbrev cX8_needRange : ByteArray := prog_1_method_66_code
def yX8_needRange : MethodName := ⟨RX8, "needRange", "(III)V"⟩
abbrev cX8_needIndex : ByteArray := prog_1_method_67_code
def yX8_needIndex : MethodName := ⟨RX8, "needIndex", "(II)V"⟩
abbrev cX8_needKind : ByteArray := prog_1_method_68_code
def yX8_needKind : MethodName := ⟨RX8, "needKind", "(I)V"⟩
abbrev cX8_needBaker : ByteArray := prog_1_method_70_code
def yX8_needBaker : MethodName := ⟨RX8, "needBaker", "(I)V"⟩
abbrev cX8_needCustomer : ByteArray := prog_1_method_71_code
def yX8_needCustomer : MethodName := ⟨RX8, "needCustomer", "(I)V"⟩
abbrev cX8_needLoaf : ByteArray := prog_1_method_72_code
def yX8_needLoaf : MethodName := ⟨RX8, "needLoaf", "(I)V"⟩
abbrev cX8_needEvent : ByteArray := prog_1_method_73_code
def yX8_needEvent : MethodName := ⟨RX8, "needEvent", "(I)V"⟩
abbrev cX8_appendWord : ByteArray := prog_1_method_75_code
def yX8_appendWord : MethodName := ⟨RX8, "appendWord", "(I)V"⟩
abbrev cX8_remember : ByteArray := prog_1_method_81_code
def yX8_remember : MethodName := ⟨RX8, "remember", "()V"⟩
abbrev cX8_forgetOldest : ByteArray := prog_1_method_82_code
def yX8_forgetOldest : MethodName := ⟨RX8, "forgetOldest", "()V"⟩
abbrev cX8_packName : ByteArray := prog_1_method_83_code
def yX8_packName : MethodName := ⟨RX8, "packName", "([BII)I"⟩
abbrev cX8_isLetter : ByteArray := prog_1_method_86_code
def yX8_isLetter : MethodName := ⟨RX8, "isLetter", "(I)Z"⟩
abbrev cX8_isDigit : ByteArray := prog_1_method_87_code
def yX8_isDigit : MethodName := ⟨RX8, "isDigit", "(I)Z"⟩
abbrev cX8_reserve : ByteArray := prog_1_method_88_code
def yX8_reserve : MethodName := ⟨RX8, "reserve", "(III)I"⟩
abbrev cX8_copyRow : ByteArray := prog_1_method_89_code
def yX8_copyRow : MethodName := ⟨RX8, "copyRow", "([I[I)V"⟩
abbrev cX8_find : ByteArray := prog_1_method_90_code
def yX8_find : MethodName := ⟨RX8, "find", "([III)I"⟩
abbrev cX8_sum : ByteArray := prog_1_method_91_code
def yX8_sum : MethodName := ⟨RX8, "sum", "([II)I"⟩
def RX9 : String := "LoafMarketLaw$Hand"
def TX9 : u_T := fun k => match k with
  | 0 => ("LoafMarketLaw$Hand", "base", "[I", true)
  | 1 => ("LoafMarketLaw$Hand", "baker", "[[I", true)
  | 2 => ("LoafMarketLaw$Hand", "queue", "[[I", true)
  | 3 => ("LoafMarketLaw$Hand", "loaf", "[[I", true)
  | 4 => ("LoafMarketLaw$Hand", "event", "[[I", true)
  | 5 => ("LoafMarketLaw$Hand", "people", "I", false)
  | 6 => ("LoafMarketLaw$Hand", "loaves", "I", false)
  | 7 => ("LoafMarketLaw$Hand", "events", "I", false)
  | 8 => ("LoafMarketLaw$Hand", "tickets", "I", false)
  | 9 => ("LoafMarketLaw$Hand", "hour", "I", false)
  | 10 => ("LoafMarketLaw$Hand", "crumbs", "I", false)
  | _ => ("LoafMarketLaw$Hand", "sparrows", "I", false)
def tyX9 : Nat → FieldType := fun k => match k with
  | 0 => .array .int
  | 1 => .array (.array .int)
  | 2 => .array (.array .int)
  | 3 => .array (.array .int)
  | 4 => .array (.array .int)
  | 5 => .int
  | 6 => .int
  | 7 => .int
  | 8 => .int
  | 9 => .int
  | 10 => .int
  | _ => .int
theorem nmX9 : ∀ a, a < 12 → ∀ b, b < 12 → a ≠ b → (TX9 a).2.1 ≠ (TX9 b).2.1 := by decide +kernel
theorem tyX9_ok : ∀ k, k < 12 → parseFieldDescriptor (TX9 k).2.2.1 = some (tyX9 k) := by decide +kernel
abbrev cX9_init : ByteArray := prog_11_method_1_code
def yX9_init : MethodName := ⟨RX9, "<init>", "(LLoafMarket;)V"⟩
abbrev cX9_reserve : ByteArray := prog_11_method_2_code
def yX9_reserve : MethodName := ⟨RX9, "reserve", "([I)I"⟩
abbrev cX9_tells : ByteArray := prog_11_method_3_code
def yX9_tells : MethodName := ⟨RX9, "tells", "(III)V"⟩
abbrev cX9_dropLoaf : ByteArray := prog_11_method_4_code
def yX9_dropLoaf : MethodName := ⟨RX9, "dropLoaf", "(I)V"⟩
abbrev cX9_leaves : ByteArray := prog_11_method_5_code
def yX9_leaves : MethodName := ⟨RX9, "leaves", "(II)V"⟩
abbrev cX9_inOvens : ByteArray := prog_11_method_6_code
def yX9_inOvens : MethodName := ⟨RX9, "inOvens", "()I"⟩
abbrev cX9_passes : ByteArray := prog_11_method_7_code
def yX9_passes : MethodName := ⟨RX9, "passes", "()I"⟩
abbrev cX9_bestBidder : ByteArray := prog_11_method_8_code
def yX9_bestBidder : MethodName := ⟨RX9, "bestBidder", "(I[I)I"⟩
abbrev cX9_cheapest : ByteArray := prog_11_method_9_code
def yX9_cheapest : MethodName := ⟨RX9, "cheapest", "(I[Z)I"⟩
abbrev cX9_holds : ByteArray := prog_11_method_10_code
def yX9_holds : MethodName := ⟨RX9, "holds", "(I)I"⟩
abbrev cX9_acts : ByteArray := prog_11_method_11_code
def yX9_acts : MethodName := ⟨RX9, "acts", "(I)I"⟩
abbrev cX9_agrees : ByteArray := prog_11_method_12_code
def yX9_agrees : MethodName := ⟨RX9, "agrees", "(LLoafMarket;)Z"⟩
def RX10 : String := "LoafMarketModel"
def TX10 : u_T := fun k => match k with
  | _ => ("", "", "", false)
def tyX10 : Nat → FieldType := fun k => match k with
  | _ => .int
theorem nmX10 : ∀ a, a < 0 → ∀ b, b < 0 → a ≠ b → (TX10 a).2.1 ≠ (TX10 b).2.1 := by decide +kernel
theorem tyX10_ok : ∀ k, k < 0 → parseFieldDescriptor (TX10 k).2.2.1 = some (tyX10 k) := by decide +kernel
def RJx145de : String := "java/io/Serializable"
def TJx145de : u_T := fun k => match k with
  | _ => ("", "", "", false)
def tyJx145de : Nat → FieldType := fun k => match k with
  | _ => .int
theorem nmJx145de : ∀ a, a < 0 → ∀ b, b < 0 → a ≠ b → (TJx145de a).2.1 ≠ (TJx145de b).2.1 := by decide +kernel
theorem tyJx145de_ok : ∀ k, k < 0 → parseFieldDescriptor (TJx145de k).2.2.1 = some (tyJx145de k) := by decide +kernel
def RJ5 : String := "java/lang/AbstractStringBuilder"
def TJ5 : u_T := fun k => match k with
  | _ => ("", "", "", false)
def tyJ5 : Nat → FieldType := fun k => match k with
  | _ => .int
theorem nmJ5 : ∀ a, a < 0 → ∀ b, b < 0 → a ≠ b → (TJ5 a).2.1 ≠ (TJ5 b).2.1 := by decide +kernel
theorem tyJ5_ok : ∀ k, k < 0 → parseFieldDescriptor (TJ5 k).2.2.1 = some (tyJ5 k) := by decide +kernel
abbrev cJ5_init_d00df : ByteArray := prog_13_method_2_code
def yJ5_init_d00df : MethodName := ⟨RJ5, "<init>", "(I)V"⟩
abbrev cJ5_init_a7421 : ByteArray := prog_13_method_3_code
def yJ5_init_a7421 : MethodName := ⟨RJ5, "<init>", "(Ljava/lang/String;)V"⟩
abbrev cJ5_length_8abf5 : ByteArray := prog_13_method_6_code
def yJ5_length_8abf5 : MethodName := ⟨RJ5, "length", "()I"⟩
abbrev cJ5_ensureCapacityInternal_d00df : ByteArray := prog_13_method_9_code
def yJ5_ensureCapacityInternal_d00df : MethodName := ⟨RJ5, "ensureCapacityInternal", "(I)V"⟩
abbrev cJ5_newCapacity_0f7a4 : ByteArray := prog_13_method_10_code
def yJ5_newCapacity_0f7a4 : MethodName := ⟨RJ5, "newCapacity", "(I)I"⟩
abbrev cJ5_inflate_da8c8 : ByteArray := prog_13_method_11_code
def yJ5_inflate_da8c8 : MethodName := ⟨RJ5, "inflate", "()V"⟩
abbrev cJ5_append_cf1ce : ByteArray := prog_13_method_22_code
def yJ5_append_cf1ce : MethodName := ⟨RJ5, "append", "(Ljava/lang/String;)Ljava/lang/AbstractStringBuilder;"⟩
abbrev cJ5_appendNull_278bc : ByteArray := prog_13_method_26_code
def yJ5_appendNull_278bc : MethodName := ⟨RJ5, "appendNull", "()Ljava/lang/AbstractStringBuilder;"⟩
abbrev cJ5_append_3fe6f : ByteArray := prog_13_method_31_code
def yJ5_append_3fe6f : MethodName := ⟨RJ5, "append", "(C)Ljava/lang/AbstractStringBuilder;"⟩
abbrev cJ5_append_c97b9 : ByteArray := prog_13_method_32_code
def yJ5_append_c97b9 : MethodName := ⟨RJ5, "append", "(I)Ljava/lang/AbstractStringBuilder;"⟩
abbrev cJ5_getValue_6d5f1 : ByteArray := prog_13_method_64_code
def yJ5_getValue_6d5f1 : MethodName := ⟨RJ5, "getValue", "()[B"⟩
abbrev cJ5_isLatin1_aae02 : ByteArray := prog_13_method_68_code
def yJ5_isLatin1_aae02 : MethodName := ⟨RJ5, "isLatin1", "()Z"⟩
abbrev cJ5_inflateIfNeededFor_a7421 : ByteArray := prog_13_method_71_code
def yJ5_inflateIfNeededFor_a7421 : MethodName := ⟨RJ5, "inflateIfNeededFor", "(Ljava/lang/String;)V"⟩
abbrev cJ5_putStringAt_47b60 : ByteArray := prog_13_method_73_code
def yJ5_putStringAt_47b60 : MethodName := ⟨RJ5, "putStringAt", "(ILjava/lang/String;)V"⟩
def RJx2cfe8 : String := "java/lang/Appendable"
def TJx2cfe8 : u_T := fun k => match k with
  | _ => ("", "", "", false)
def tyJx2cfe8 : Nat → FieldType := fun k => match k with
  | _ => .int
theorem nmJx2cfe8 : ∀ a, a < 0 → ∀ b, b < 0 → a ≠ b → (TJx2cfe8 a).2.1 ≠ (TJx2cfe8 b).2.1 := by decide +kernel
theorem tyJx2cfe8_ok : ∀ k, k < 0 → parseFieldDescriptor (TJx2cfe8 k).2.2.1 = some (tyJx2cfe8 k) := by decide +kernel
def RJx9f9b0 : String := "java/lang/CharSequence"
def TJx9f9b0 : u_T := fun k => match k with
  | _ => ("", "", "", false)
def tyJx9f9b0 : Nat → FieldType := fun k => match k with
  | _ => .int
theorem nmJx9f9b0 : ∀ a, a < 0 → ∀ b, b < 0 → a ≠ b → (TJx9f9b0 a).2.1 ≠ (TJx9f9b0 b).2.1 := by decide +kernel
theorem tyJx9f9b0_ok : ∀ k, k < 0 → parseFieldDescriptor (TJx9f9b0 k).2.2.1 = some (tyJx9f9b0 k) := by decide +kernel
def RJx8e188 : String := "java/lang/Cloneable"
def TJx8e188 : u_T := fun k => match k with
  | _ => ("", "", "", false)
def tyJx8e188 : Nat → FieldType := fun k => match k with
  | _ => .int
theorem nmJx8e188 : ∀ a, a < 0 → ∀ b, b < 0 → a ≠ b → (TJx8e188 a).2.1 ≠ (TJx8e188 b).2.1 := by decide +kernel
theorem tyJx8e188_ok : ∀ k, k < 0 → parseFieldDescriptor (TJx8e188 k).2.2.1 = some (tyJx8e188 k) := by decide +kernel
def RJxb160c : String := "java/lang/Comparable"
def TJxb160c : u_T := fun k => match k with
  | _ => ("", "", "", false)
def tyJxb160c : Nat → FieldType := fun k => match k with
  | _ => .int
theorem nmJxb160c : ∀ a, a < 0 → ∀ b, b < 0 → a ≠ b → (TJxb160c a).2.1 ≠ (TJxb160c b).2.1 := by decide +kernel
theorem tyJxb160c_ok : ∀ k, k < 0 → parseFieldDescriptor (TJxb160c k).2.2.1 = some (tyJxb160c k) := by decide +kernel
def RJ6 : String := "java/lang/Integer"
def TJ6 : u_T := fun k => match k with
  | _ => ("", "", "", false)
def tyJ6 : Nat → FieldType := fun k => match k with
  | _ => .int
theorem nmJ6 : ∀ a, a < 0 → ∀ b, b < 0 → a ≠ b → (TJ6 a).2.1 ≠ (TJ6 b).2.1 := by decide +kernel
theorem tyJ6_ok : ∀ k, k < 0 → parseFieldDescriptor (TJ6 k).2.2.1 = some (tyJ6 k) := by decide +kernel
abbrev cJ6_getChars_ba4f3 : ByteArray := prog_19_method_12_code
def yJ6_getChars_ba4f3 : MethodName := ⟨RJ6, "getChars", "(II[B)I"⟩
abbrev cJ6_stringSize_0f7a4 : ByteArray := prog_19_method_13_code
def yJ6_stringSize_0f7a4 : MethodName := ⟨RJ6, "stringSize", "(I)I"⟩
def RJ9 : String := "java/lang/Math"
def TJ9 : u_T := fun k => match k with
  | _ => ("", "", "", false)
def tyJ9 : Nat → FieldType := fun k => match k with
  | _ => .int
theorem nmJ9 : ∀ a, a < 0 → ∀ b, b < 0 → a ≠ b → (TJ9 a).2.1 ≠ (TJ9 b).2.1 := by decide +kernel
theorem tyJ9_ok : ∀ k, k < 0 → parseFieldDescriptor (TJ9 k).2.2.1 = some (tyJ9 k) := by decide +kernel
abbrev cJ9_max_7cf53 : ByteArray := prog_20_method_65_code
def yJ9_max_7cf53 : MethodName := ⟨RJ9, "max", "(II)I"⟩
abbrev cJ9_min_7cf53 : ByteArray := prog_20_method_69_code
def yJ9_min_7cf53 : MethodName := ⟨RJ9, "min", "(II)I"⟩
def RJxd2413 : String := "java/lang/Number"
def TJxd2413 : u_T := fun k => match k with
  | _ => ("", "", "", false)
def tyJxd2413 : Nat → FieldType := fun k => match k with
  | _ => .int
theorem nmJxd2413 : ∀ a, a < 0 → ∀ b, b < 0 → a ≠ b → (TJxd2413 a).2.1 ≠ (TJxd2413 b).2.1 := by decide +kernel
theorem tyJxd2413_ok : ∀ k, k < 0 → parseFieldDescriptor (TJxd2413 k).2.2.1 = some (tyJxd2413 k) := by decide +kernel
def RJ0 : String := "java/lang/String"
def TJ0 : u_T := fun k => match k with
  | 0 => ("java/lang/String", "value", "[B", true)
  | 1 => ("java/lang/String", "coder", "B", true)
  | 2 => ("java/lang/String", "hash", "I", false)
  | _ => ("java/lang/String", "hashIsZero", "Z", false)
def tyJ0 : Nat → FieldType := fun k => match k with
  | 0 => .array .byte
  | 1 => .byte
  | 2 => .int
  | _ => .boolean
theorem nmJ0 : ∀ a, a < 4 → ∀ b, b < 4 → a ≠ b → (TJ0 a).2.1 ≠ (TJ0 b).2.1 := by decide +kernel
theorem tyJ0_ok : ∀ k, k < 4 → parseFieldDescriptor (TJ0 k).2.2.1 = some (tyJ0 k) := by decide +kernel
abbrev cJ0_init_81219 : ByteArray := prog_23_method_53_code
def yJ0_init_81219 : MethodName := ⟨RJ0, "<init>", "(Ljava/lang/StringBuilder;)V"⟩
abbrev cJ0_length_8abf5 : ByteArray := prog_23_method_54_code
def yJ0_length_8abf5 : MethodName := ⟨RJ0, "length", "()I"⟩
abbrev cJ0_charAt_5068e : ByteArray := prog_23_method_56_code
def yJ0_charAt_5068e : MethodName := ⟨RJ0, "charAt", "(I)C"⟩
abbrev cJ0_getBytes_840e7 : ByteArray := prog_23_method_147_code
def yJ0_getBytes_840e7 : MethodName := ⟨RJ0, "getBytes", "([BIB)V"⟩
abbrev cJ0_init_db425 : ByteArray := prog_23_method_150_code
def yJ0_init_db425 : MethodName := ⟨RJ0, "<init>", "(Ljava/lang/AbstractStringBuilder;Ljava/lang/Void;)V"⟩
abbrev cJ0_coder_7d493 : ByteArray := prog_23_method_152_code
def yJ0_coder_7d493 : MethodName := ⟨RJ0, "coder", "()B"⟩
abbrev cJ0_isLatin1_aae02 : ByteArray := prog_23_method_154_code
def yJ0_isLatin1_aae02 : MethodName := ⟨RJ0, "isLatin1", "()Z"⟩
abbrev cJ0_checkIndex_df160 : ByteArray := prog_23_method_155_code
def yJ0_checkIndex_df160 : MethodName := ⟨RJ0, "checkIndex", "(II)V"⟩
abbrev cJ0_checkBoundsOffCount_cabcc : ByteArray := prog_23_method_157_code
def yJ0_checkBoundsOffCount_cabcc : MethodName := ⟨RJ0, "checkBoundsOffCount", "(III)I"⟩
abbrev cJ0_checkBoundsBeginEnd_23922 : ByteArray := prog_23_method_158_code
def yJ0_checkBoundsBeginEnd_23922 : MethodName := ⟨RJ0, "checkBoundsBeginEnd", "(III)V"⟩
def RJ4 : String := "java/lang/StringBuilder"
def TJ4 : u_T := fun k => match k with
  | 0 => ("java/lang/AbstractStringBuilder", "value", "[B", false)
  | 1 => ("java/lang/AbstractStringBuilder", "coder", "B", false)
  | 2 => ("java/lang/AbstractStringBuilder", "maybeLatin1", "Z", false)
  | _ => ("java/lang/AbstractStringBuilder", "count", "I", false)
def tyJ4 : Nat → FieldType := fun k => match k with
  | 0 => .array .byte
  | 1 => .byte
  | 2 => .boolean
  | _ => .int
theorem nmJ4 : ∀ a, a < 4 → ∀ b, b < 4 → a ≠ b → (TJ4 a).2.1 ≠ (TJ4 b).2.1 := by decide +kernel
theorem tyJ4_ok : ∀ k, k < 4 → parseFieldDescriptor (TJ4 k).2.2.1 = some (tyJ4 k) := by decide +kernel
abbrev cJ4_init_da8c8 : ByteArray := prog_24_method_1_code
def yJ4_init_da8c8 : MethodName := ⟨RJ4, "<init>", "()V"⟩
abbrev cJ4_init_a7421 : ByteArray := prog_24_method_3_code
def yJ4_init_a7421 : MethodName := ⟨RJ4, "<init>", "(Ljava/lang/String;)V"⟩
abbrev cJ4_append_15ec4 : ByteArray := prog_24_method_7_code
def yJ4_append_15ec4 : MethodName := ⟨RJ4, "append", "(Ljava/lang/String;)Ljava/lang/StringBuilder;"⟩
abbrev cJ4_append_cf468 : ByteArray := prog_24_method_14_code
def yJ4_append_cf468 : MethodName := ⟨RJ4, "append", "(C)Ljava/lang/StringBuilder;"⟩
abbrev cJ4_append_bf812 : ByteArray := prog_24_method_15_code
def yJ4_append_bf812 : MethodName := ⟨RJ4, "append", "(I)Ljava/lang/StringBuilder;"⟩
abbrev cJ4_toString_0e30d : ByteArray := prog_24_method_42_code
def yJ4_toString_0e30d : MethodName := ⟨RJ4, "toString", "()Ljava/lang/String;"⟩
abbrev cJ4_append_cf1ce : ByteArray := prog_24_method_80_code
def yJ4_append_cf1ce : MethodName := ⟨RJ4, "append", "(Ljava/lang/String;)Ljava/lang/AbstractStringBuilder;"⟩
abbrev cJ4_length_8abf5 : ByteArray := prog_24_method_93_code
def yJ4_length_8abf5 : MethodName := ⟨RJ4, "length", "()I"⟩
def RJ1 : String := "java/lang/StringLatin1"
def TJ1 : u_T := fun k => match k with
  | _ => ("", "", "", false)
def tyJ1 : Nat → FieldType := fun k => match k with
  | _ => .int
theorem nmJ1 : ∀ a, a < 0 → ∀ b, b < 0 → a ≠ b → (TJ1 a).2.1 ≠ (TJ1 b).2.1 := by decide +kernel
theorem tyJ1_ok : ∀ k, k < 0 → parseFieldDescriptor (TJ1 k).2.2.1 = some (tyJ1 k) := by decide +kernel
abbrev cJ1_charAt_3b067 : ByteArray := prog_25_method_2_code
def yJ1_charAt_3b067 : MethodName := ⟨RJ1, "charAt", "([BI)C"⟩
abbrev cJ1_canEncode_fc78d : ByteArray := prog_25_method_3_code
def yJ1_canEncode_fc78d : MethodName := ⟨RJ1, "canEncode", "(C)Z"⟩
abbrev cJ1_inflate_0e8fd : ByteArray := prog_25_method_50_code
def yJ1_inflate_0e8fd : MethodName := ⟨RJ1, "inflate", "([BI[BII)V"⟩
def RJ2 : String := "java/lang/StringUTF16"
def TJ2 : u_T := fun k => match k with
  | _ => ("", "", "", false)
def tyJ2 : Nat → FieldType := fun k => match k with
  | _ => .int
theorem nmJ2 : ∀ a, a < 0 → ∀ b, b < 0 → a ≠ b → (TJ2 a).2.1 ≠ (TJ2 b).2.1 := by decide +kernel
theorem tyJ2_ok : ∀ k, k < 0 → parseFieldDescriptor (TJ2 k).2.2.1 = some (tyJ2 k) := by decide +kernel
abbrev cJ2_newBytesFor_77867 : ByteArray := prog_26_method_2_code
def yJ2_newBytesFor_77867 : MethodName := ⟨RJ2, "newBytesFor", "(I)[B"⟩
abbrev cJ2_newBytesLength_0f7a4 : ByteArray := prog_26_method_3_code
def yJ2_newBytesLength_0f7a4 : MethodName := ⟨RJ2, "newBytesLength", "(I)I"⟩
abbrev cJ2_putChar_b72d1 : ByteArray := prog_26_method_4_code
def yJ2_putChar_b72d1 : MethodName := ⟨RJ2, "putChar", "([BII)V"⟩
abbrev cJ2_getChar_3b067 : ByteArray := prog_26_method_5_code
def yJ2_getChar_3b067 : MethodName := ⟨RJ2, "getChar", "([BI)C"⟩
abbrev cJ2_length_9d52b : ByteArray := prog_26_method_6_code
def yJ2_length_9d52b : MethodName := ⟨RJ2, "length", "([B)I"⟩
abbrev cJ2_coderFromArrayLen_85cad : ByteArray := prog_26_method_15_code
def yJ2_coderFromArrayLen_85cad : MethodName := ⟨RJ2, "coderFromArrayLen", "([BI)B"⟩
abbrev cJ2_compress_39247 : ByteArray := prog_26_method_17_code
def yJ2_compress_39247 : MethodName := ⟨RJ2, "compress", "([BII)[B"⟩
abbrev cJ2_compress_5af95 : ByteArray := prog_26_method_22_code
def yJ2_compress_5af95 : MethodName := ⟨RJ2, "compress", "([BI[BII)I"⟩
abbrev cJ2_putCharSB_b72d1 : ByteArray := prog_26_method_71_code
def yJ2_putCharSB_b72d1 : MethodName := ⟨RJ2, "putCharSB", "([BII)V"⟩
abbrev cJ2_getChars_46870 : ByteArray := prog_26_method_77_code
def yJ2_getChars_46870 : MethodName := ⟨RJ2, "getChars", "(III[B)I"⟩
abbrev cJ2_putCharsAt_cd4e5 : ByteArray := prog_26_method_81_code
def yJ2_putCharsAt_cd4e5 : MethodName := ⟨RJ2, "putCharsAt", "([BICCCC)I"⟩
abbrev cJ2_charAt_3b067 : ByteArray := prog_26_method_83_code
def yJ2_charAt_3b067 : MethodName := ⟨RJ2, "charAt", "([BI)C"⟩
abbrev cJ2_inflate_0e8fd : ByteArray := prog_26_method_86_code
def yJ2_inflate_0e8fd : MethodName := ⟨RJ2, "inflate", "([BI[BII)V"⟩
abbrev cJ2_getChars_ba4f3 : ByteArray := prog_26_method_89_code
def yJ2_getChars_ba4f3 : MethodName := ⟨RJ2, "getChars", "(II[B)I"⟩
abbrev cJ2_checkIndex_2214a : ByteArray := prog_26_method_91_code
def yJ2_checkIndex_2214a : MethodName := ⟨RJ2, "checkIndex", "(I[B)V"⟩
abbrev cJ2_checkBoundsBeginEnd_d044e : ByteArray := prog_26_method_93_code
def yJ2_checkBoundsBeginEnd_d044e : MethodName := ⟨RJ2, "checkBoundsBeginEnd", "(II[B)V"⟩
abbrev cJ2_checkBoundsOffCount_d044e : ByteArray := prog_26_method_94_code
def yJ2_checkBoundsOffCount_d044e : MethodName := ⟨RJ2, "checkBoundsOffCount", "(II[B)V"⟩
def RJ10 : String := "java/lang/System"
def TJ10 : u_T := fun k => match k with
  | _ => ("", "", "", false)
def tyJ10 : Nat → FieldType := fun k => match k with
  | _ => .int
theorem nmJ10 : ∀ a, a < 0 → ∀ b, b < 0 → a ≠ b → (TJ10 a).2.1 ≠ (TJ10 b).2.1 := by decide +kernel
theorem tyJ10_ok : ∀ k, k < 0 → parseFieldDescriptor (TJ10 k).2.2.1 = some (tyJ10 k) := by decide +kernel
def RJxfd54e : String := "java/lang/constant/Constable"
def TJxfd54e : u_T := fun k => match k with
  | _ => ("", "", "", false)
def tyJxfd54e : Nat → FieldType := fun k => match k with
  | _ => .int
theorem nmJxfd54e : ∀ a, a < 0 → ∀ b, b < 0 → a ≠ b → (TJxfd54e a).2.1 ≠ (TJxfd54e b).2.1 := by decide +kernel
theorem tyJxfd54e_ok : ∀ k, k < 0 → parseFieldDescriptor (TJxfd54e k).2.2.1 = some (tyJxfd54e k) := by decide +kernel
def RJx3cf43 : String := "java/lang/constant/ConstantDesc"
def TJx3cf43 : u_T := fun k => match k with
  | _ => ("", "", "", false)
def tyJx3cf43 : Nat → FieldType := fun k => match k with
  | _ => .int
theorem nmJx3cf43 : ∀ a, a < 0 → ∀ b, b < 0 → a ≠ b → (TJx3cf43 a).2.1 ≠ (TJx3cf43 b).2.1 := by decide +kernel
theorem tyJx3cf43_ok : ∀ k, k < 0 → parseFieldDescriptor (TJx3cf43 k).2.2.1 = some (tyJx3cf43 k) := by decide +kernel
def RJ7 : String := "java/util/Arrays"
def TJ7 : u_T := fun k => match k with
  | _ => ("", "", "", false)
def tyJ7 : Nat → FieldType := fun k => match k with
  | _ => .int
theorem nmJ7 : ∀ a, a < 0 → ∀ b, b < 0 → a ≠ b → (TJ7 a).2.1 ≠ (TJ7 b).2.1 := by decide +kernel
theorem tyJ7_ok : ∀ k, k < 0 → parseFieldDescriptor (TJ7 k).2.2.1 = some (tyJ7 k) := by decide +kernel
abbrev cJ7_copyOf_9075b : ByteArray := prog_29_method_121_code
def yJ7_copyOf_9075b : MethodName := ⟨RJ7, "copyOf", "([BI)[B"⟩
abbrev cJ7_checkLength_df160 : ByteArray := prog_29_method_131_code
def yJ7_checkLength_df160 : MethodName := ⟨RJ7, "checkLength", "(II)V"⟩
abbrev cJ7_copyOfRange_39247 : ByteArray := prog_29_method_132_code
def yJ7_copyOfRange_39247 : MethodName := ⟨RJ7, "copyOfRange", "([BII)[B"⟩
abbrev cJ7_copyOfRangeByte_39247 : ByteArray := prog_29_method_133_code
def yJ7_copyOfRangeByte_39247 : MethodName := ⟨RJ7, "copyOfRangeByte", "([BII)[B"⟩
def RJ8 : String := "jdk/internal/util/ArraysSupport"
def TJ8 : u_T := fun k => match k with
  | _ => ("", "", "", false)
def tyJ8 : Nat → FieldType := fun k => match k with
  | _ => .int
theorem nmJ8 : ∀ a, a < 0 → ∀ b, b < 0 → a ≠ b → (TJ8 a).2.1 ≠ (TJ8 b).2.1 := by decide +kernel
theorem tyJ8_ok : ∀ k, k < 0 → parseFieldDescriptor (TJ8 k).2.2.1 = some (tyJ8 k) := by decide +kernel
abbrev cJ8_newLength_cabcc : ByteArray := prog_30_method_27_code
def yJ8_newLength_cabcc : MethodName := ⟨RJ8, "newLength", "(III)I"⟩
abbrev cJ8_hugeLength_7cf53 : ByteArray := prog_30_method_28_code
def yJ8_hugeLength_7cf53 : MethodName := ⟨RJ8, "hugeLength", "(II)I"⟩
def RJ3 : String := "jdk/internal/util/Preconditions"
def TJ3 : u_T := fun k => match k with
  | _ => ("", "", "", false)
def tyJ3 : Nat → FieldType := fun k => match k with
  | _ => .int
theorem nmJ3 : ∀ a, a < 0 → ∀ b, b < 0 → a ≠ b → (TJ3 a).2.1 ≠ (TJ3 b).2.1 := by decide +kernel
theorem tyJ3_ok : ∀ k, k < 0 → parseFieldDescriptor (TJ3 k).2.2.1 = some (tyJ3 k) := by decide +kernel
abbrev cJ3_checkIndex_8e157 : ByteArray := prog_31_method_11_code
def yJ3_checkIndex_8e157 : MethodName := ⟨RJ3, "checkIndex", "(IILjava/util/function/BiFunction;)I"⟩
abbrev cJ3_checkFromToIndex_8c36e : ByteArray := prog_31_method_12_code
def yJ3_checkFromToIndex_8c36e : MethodName := ⟨RJ3, "checkFromToIndex", "(IIILjava/util/function/BiFunction;)I"⟩
abbrev cJ3_checkFromIndexSize_8c36e : ByteArray := prog_31_method_13_code
def yJ3_checkFromIndexSize_8c36e : MethodName := ⟨RJ3, "checkFromIndexSize", "(IIILjava/util/function/BiFunction;)I"⟩
def RL : String := "LoafMarketLaw"
abbrev cL_cell : ByteArray := method_2_code
def yL_cell : MethodName := ⟨RL, "cell", "([II)I"⟩
abbrev cL_says : ByteArray := method_3_code
def yL_says : MethodName := ⟨RL, "says", "(LLoafMarket;Ljava/lang/String;)V"⟩
abbrev cL_loaded : ByteArray := method_4_code
def yL_loaded : MethodName := ⟨RL, "loaded", "(LLoafMarket;)I"⟩
abbrev cL_kind : ByteArray := method_5_code
def yL_kind : MethodName := ⟨RL, "kind", "(I)Ljava/lang/String;"⟩
abbrev cL_text : ByteArray := method_6_code
def yL_text : MethodName := ⟨RL, "text", "([I)Ljava/lang/String;"⟩
abbrev cL_acts : ByteArray := method_7_code
def yL_acts : MethodName := ⟨RL, "acts", "(LLoafMarket;II)I"⟩
abbrev cL_law : ByteArray := code
def yL_law : MethodName := ⟨RL, "law", "([I)Z"⟩
