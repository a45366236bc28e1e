def RX0 : String := "TheatreLedger$1"
def TX0 : u_T := fun k => match k with
  | _ => ("", "", "", false)
def tyX0 : Nat → FieldType := fun k => match k with
  | _ => .int
abbrev wsX00 : List Cond := u_ws RX0 TX0 0
theorem nmX0 : ∀ a, a < 0 → ∀ b, b < 0 → a ≠ b → (TX0 a).2.1 ≠ (TX0 b).2.1 := by decide +kernel
theorem tyX0_ok : ∀ k, k < 0 → parseFieldDescriptor (TX0 k).2.2.1 = some (tyX0 k) := by decide +kernel
def RX1 : String := "TheatreLedger$Accounts"
def TX1 : u_T := fun k => match k with
  | 0 => ("TheatreLedger$Accounts", "kinds", "[C", true)
  | 1 => ("TheatreLedger$Accounts", "parents", "[I", true)
  | 2 => ("TheatreLedger$Accounts", "debited", "[J", true)
  | 3 => ("TheatreLedger$Accounts", "credited", "[J", true)
  | _ => ("TheatreLedger$Accounts", "count", "I", false)
def tyX1 : Nat → FieldType := fun k => match k with
  | 0 => .array .char
  | 1 => .array .int
  | 2 => .array .long
  | 3 => .array .long
  | _ => .int
abbrev wsX10 : List Cond := u_ws RX1 TX1 5
theorem nmX1 : ∀ a, a < 5 → ∀ b, b < 5 → a ≠ b → (TX1 a).2.1 ≠ (TX1 b).2.1 := by decide +kernel
theorem tyX1_ok : ∀ k, k < 5 → parseFieldDescriptor (TX1 k).2.2.1 = some (tyX1 k) := by decide +kernel
abbrev cX1_init : ByteArray := prog_3_method_1_code
def yX1_init : MethodName := ⟨RX1, "<init>", "()V"⟩
abbrev cX1_copyFrom : ByteArray := prog_3_method_2_code
def yX1_copyFrom : MethodName := ⟨RX1, "copyFrom", "(LTheatreLedger$Accounts;)V"⟩
abbrev cX1_has : ByteArray := prog_3_method_3_code
def yX1_has : MethodName := ⟨RX1, "has", "(I)Z"⟩
abbrev cX1_faultOfNew : ByteArray := prog_3_method_4_code
def yX1_faultOfNew : MethodName := ⟨RX1, "faultOfNew", "(C)LTheatreLedger$Fault;"⟩
abbrev cX1_faultOfNewBelow : ByteArray := prog_3_method_5_code
def yX1_faultOfNewBelow : MethodName := ⟨RX1, "faultOfNewBelow", "(I)LTheatreLedger$Fault;"⟩
abbrev cX1_faultOfEntry : ByteArray := prog_3_method_6_code
def yX1_faultOfEntry : MethodName := ⟨RX1, "faultOfEntry", "(III)LTheatreLedger$Fault;"⟩
abbrev cX1_add : ByteArray := prog_3_method_7_code
def yX1_add : MethodName := ⟨RX1, "add", "(CI)I"⟩
abbrev cX1_move : ByteArray := prog_3_method_8_code
def yX1_move : MethodName := ⟨RX1, "move", "(IIJ)V"⟩
abbrev cX1_kindAt : ByteArray := prog_3_method_9_code
def yX1_kindAt : MethodName := ⟨RX1, "kindAt", "(I)C"⟩
abbrev cX1_parentAt : ByteArray := prog_3_method_10_code
def yX1_parentAt : MethodName := ⟨RX1, "parentAt", "(I)I"⟩
abbrev cX1_debitsAt : ByteArray := prog_3_method_11_code
def yX1_debitsAt : MethodName := ⟨RX1, "debitsAt", "(I)J"⟩
abbrev cX1_creditsAt : ByteArray := prog_3_method_12_code
def yX1_creditsAt : MethodName := ⟨RX1, "creditsAt", "(I)J"⟩
abbrev cX1_balanceAt : ByteArray := prog_3_method_13_code
def yX1_balanceAt : MethodName := ⟨RX1, "balanceAt", "(I)J"⟩
abbrev cX1_isOfProfit : ByteArray := prog_3_method_14_code
def yX1_isOfProfit : MethodName := ⟨RX1, "isOfProfit", "(I)Z"⟩
abbrev cX1_allDebits : ByteArray := prog_3_method_15_code
def yX1_allDebits : MethodName := ⟨RX1, "allDebits", "()J"⟩
abbrev cX1_allCredits : ByteArray := prog_3_method_16_code
def yX1_allCredits : MethodName := ⟨RX1, "allCredits", "()J"⟩
abbrev cX1_gain : ByteArray := prog_3_method_17_code
def yX1_gain : MethodName := ⟨RX1, "gain", "()J"⟩
abbrev cX1_treeOf : ByteArray := prog_3_method_18_code
def yX1_treeOf : MethodName := ⟨RX1, "treeOf", "(I)I"⟩
abbrev cX1_sizeOfTree : ByteArray := prog_3_method_19_code
def yX1_sizeOfTree : MethodName := ⟨RX1, "sizeOfTree", "(I)I"⟩
abbrev cX1_sumOfTree : ByteArray := prog_3_method_20_code
def yX1_sumOfTree : MethodName := ⟨RX1, "sumOfTree", "(I)J"⟩
abbrev cX1_sumOfThoseBelow : ByteArray := prog_3_method_21_code
def yX1_sumOfThoseBelow : MethodName := ⟨RX1, "sumOfThoseBelow", "(I)J"⟩
abbrev cX1_leadsUpTo : ByteArray := prog_3_method_22_code
def yX1_leadsUpTo : MethodName := ⟨RX1, "leadsUpTo", "(II)Z"⟩
abbrev cX1_treesAgree : ByteArray := prog_3_method_23_code
def yX1_treesAgree : MethodName := ⟨RX1, "treesAgree", "()Z"⟩
abbrev cX1_accountAtRank : ByteArray := prog_3_method_24_code
def yX1_accountAtRank : MethodName := ⟨RX1, "accountAtRank", "(I)I"⟩
abbrev cX1_rankOf : ByteArray := prog_3_method_25_code
def yX1_rankOf : MethodName := ⟨RX1, "rankOf", "(I)I"⟩
def RX2 : String := "TheatreLedger$Bills"
def TX2 : u_T := fun k => match k with
  | 0 => ("TheatreLedger$Bills", "ids", "[I", true)
  | 1 => ("TheatreLedger$Bills", "amounts", "[I", true)
  | 2 => ("TheatreLedger$Bills", "count", "I", false)
  | _ => ("TheatreLedger$Bills", "nextId", "I", false)
def tyX2 : Nat → FieldType := fun k => match k with
  | 0 => .array .int
  | 1 => .array .int
  | 2 => .int
  | _ => .int
abbrev wsX20 : List Cond := u_ws RX2 TX2 4
theorem nmX2 : ∀ a, a < 4 → ∀ b, b < 4 → a ≠ b → (TX2 a).2.1 ≠ (TX2 b).2.1 := by decide +kernel
theorem tyX2_ok : ∀ k, k < 4 → parseFieldDescriptor (TX2 k).2.2.1 = some (tyX2 k) := by decide +kernel
abbrev cX2_init : ByteArray := prog_4_method_1_code
def yX2_init : MethodName := ⟨RX2, "<init>", "()V"⟩
abbrev cX2_copyFrom : ByteArray := prog_4_method_2_code
def yX2_copyFrom : MethodName := ⟨RX2, "copyFrom", "(LTheatreLedger$Bills;)V"⟩
abbrev cX2_placeOf : ByteArray := prog_4_method_3_code
def yX2_placeOf : MethodName := ⟨RX2, "placeOf", "(I)I"⟩
abbrev cX2_idAt : ByteArray := prog_4_method_4_code
def yX2_idAt : MethodName := ⟨RX2, "idAt", "(I)I"⟩
abbrev cX2_amountAt : ByteArray := prog_4_method_5_code
def yX2_amountAt : MethodName := ⟨RX2, "amountAt", "(I)I"⟩
abbrev cX2_total : ByteArray := prog_4_method_6_code
def yX2_total : MethodName := ⟨RX2, "total", "()I"⟩
abbrev cX2_faultOfNew : ByteArray := prog_4_method_7_code
def yX2_faultOfNew : MethodName := ⟨RX2, "faultOfNew", "(I)LTheatreLedger$Fault;"⟩
abbrev cX2_faultOfPayment : ByteArray := prog_4_method_8_code
def yX2_faultOfPayment : MethodName := ⟨RX2, "faultOfPayment", "(I)LTheatreLedger$Fault;"⟩
abbrev cX2_add : ByteArray := prog_4_method_9_code
def yX2_add : MethodName := ⟨RX2, "add", "(I)I"⟩
abbrev cX2_paySet : ByteArray := prog_4_method_10_code
def yX2_paySet : MethodName := ⟨RX2, "paySet", "(I)I"⟩
abbrev cX2_payInOrder : ByteArray := prog_4_method_11_code
def yX2_payInOrder : MethodName := ⟨RX2, "payInOrder", "(I)I"⟩
abbrev cX2_dropPaid : ByteArray := prog_4_method_12_code
def yX2_dropPaid : MethodName := ⟨RX2, "dropPaid", "()I"⟩
def RX3 : String := "TheatreLedger$Books"
def TX3 : u_T := fun k => match k with
  | 0 => ("TheatreLedger$Books", "accounts", "LTheatreLedger$Accounts;", true)
  | 1 => ("TheatreLedger$Books", "journal", "LTheatreLedger$Journal;", true)
  | 2 => ("TheatreLedger$Books", "prompts", "LTheatreLedger$Prompts;", true)
  | 3 => ("TheatreLedger$Books", "wardrobe", "LTheatreLedger$Wardrobe;", true)
  | 4 => ("TheatreLedger$Books", "bills", "LTheatreLedger$Bills;", true)
  | 5 => ("TheatreLedger$Books", "hoursPassed", "I", false)
  | _ => ("TheatreLedger$Books", "curtains", "I", false)
def tyX3 : Nat → FieldType := fun k => match k with
  | 0 => .object "TheatreLedger$Accounts"
  | 1 => .object "TheatreLedger$Journal"
  | 2 => .object "TheatreLedger$Prompts"
  | 3 => .object "TheatreLedger$Wardrobe"
  | 4 => .object "TheatreLedger$Bills"
  | 5 => .int
  | _ => .int
abbrev wsX30 : List Cond := u_ws RX3 TX3 7
theorem nmX3 : ∀ a, a < 7 → ∀ b, b < 7 → a ≠ b → (TX3 a).2.1 ≠ (TX3 b).2.1 := by decide +kernel
theorem tyX3_ok : ∀ k, k < 7 → parseFieldDescriptor (TX3 k).2.2.1 = some (tyX3 k) := by decide +kernel
abbrev cX3_init : ByteArray := prog_5_method_1_code
def yX3_init : MethodName := ⟨RX3, "<init>", "()V"⟩
abbrev cX3_copyFrom : ByteArray := prog_5_method_2_code
def yX3_copyFrom : MethodName := ⟨RX3, "copyFrom", "(LTheatreLedger$Books;)V"⟩
abbrev cX3_makeEntry : ByteArray := prog_5_method_3_code
def yX3_makeEntry : MethodName := ⟨RX3, "makeEntry", "(IIJ)I"⟩
abbrev cX3_makeReversal : ByteArray := prog_5_method_4_code
def yX3_makeReversal : MethodName := ⟨RX3, "makeReversal", "(I)I"⟩
abbrev cX3_letPass : ByteArray := prog_5_method_5_code
def yX3_letPass : MethodName := ⟨RX3, "letPass", "(I)I"⟩
abbrev cX3_faultOfBuying : ByteArray := prog_5_method_6_code
def yX3_faultOfBuying : MethodName := ⟨RX3, "faultOfBuying", "(II)LTheatreLedger$Fault;"⟩
abbrev cX3_buyLot : ByteArray := prog_5_method_7_code
def yX3_buyLot : MethodName := ⟨RX3, "buyLot", "(II)I"⟩
abbrev cX3_sellCostumes : ByteArray := prog_5_method_8_code
def yX3_sellCostumes : MethodName := ⟨RX3, "sellCostumes", "(II)I"⟩
abbrev cX3_writeBill : ByteArray := prog_5_method_9_code
def yX3_writeBill : MethodName := ⟨RX3, "writeBill", "(I)I"⟩
abbrev cX3_takePayment : ByteArray := prog_5_method_10_code
def yX3_takePayment : MethodName := ⟨RX3, "takePayment", "(II)I"⟩
abbrev cX3_dropCurtain : ByteArray := prog_5_method_11_code
def yX3_dropCurtain : MethodName := ⟨RX3, "dropCurtain", "()J"⟩
abbrev cX3_level : ByteArray := prog_5_method_12_code
def yX3_level : MethodName := ⟨RX3, "level", "(I)V"⟩
def RX4 : String := "TheatreLedger$Fault"
def TX4 : u_T := fun k => match k with
  | _ => ("", "", "", false)
def tyX4 : Nat → FieldType := fun k => match k with
  | _ => .int
abbrev wsX40 : List Cond := u_ws RX4 TX4 0
theorem nmX4 : ∀ a, a < 0 → ∀ b, b < 0 → a ≠ b → (TX4 a).2.1 ≠ (TX4 b).2.1 := by decide +kernel
theorem tyX4_ok : ∀ k, k < 0 → parseFieldDescriptor (TX4 k).2.2.1 = some (tyX4 k) := by decide +kernel
def RX5 : String := "TheatreLedger$History"
def TX5 : u_T := fun k => match k with
  | 0 => ("TheatreLedger$History", "rows", "[LTheatreLedger$Books;", true)
  | 1 => ("TheatreLedger$History", "first", "I", false)
  | _ => ("TheatreLedger$History", "count", "I", false)
def tyX5 : Nat → FieldType := fun k => match k with
  | 0 => .array (.object "TheatreLedger$Books")
  | 1 => .int
  | _ => .int
abbrev wsX50 : List Cond := u_ws RX5 TX5 3
theorem nmX5 : ∀ a, a < 3 → ∀ b, b < 3 → a ≠ b → (TX5 a).2.1 ≠ (TX5 b).2.1 := by decide +kernel
theorem tyX5_ok : ∀ k, k < 3 → parseFieldDescriptor (TX5 k).2.2.1 = some (tyX5 k) := by decide +kernel
abbrev cX5_init : ByteArray := prog_7_method_1_code
def yX5_init : MethodName := ⟨RX5, "<init>", "()V"⟩
abbrev cX5_free : ByteArray := prog_7_method_2_code
def yX5_free : MethodName := ⟨RX5, "free", "()LTheatreLedger$Books;"⟩
abbrev cX5_setAside : ByteArray := prog_7_method_3_code
def yX5_setAside : MethodName := ⟨RX5, "setAside", "(LTheatreLedger$Books;)V"⟩
abbrev cX5_putBack : ByteArray := prog_7_method_4_code
def yX5_putBack : MethodName := ⟨RX5, "putBack", "(LTheatreLedger$Books;)V"⟩
abbrev cX5_keepAside : ByteArray := prog_7_method_5_code
def yX5_keepAside : MethodName := ⟨RX5, "keepAside", "()V"⟩
abbrev cX5_stepBack : ByteArray := prog_7_method_6_code
def yX5_stepBack : MethodName := ⟨RX5, "stepBack", "(LTheatreLedger$Books;)V"⟩
abbrev cX5_clear : ByteArray := prog_7_method_7_code
def yX5_clear : MethodName := ⟨RX5, "clear", "()V"⟩
def RX6 : String := "TheatreLedger$Journal"
def TX6 : u_T := fun k => match k with
  | 0 => ("TheatreLedger$Journal", "debited", "[I", true)
  | 1 => ("TheatreLedger$Journal", "credited", "[I", true)
  | 2 => ("TheatreLedger$Journal", "amounts", "[J", true)
  | 3 => ("TheatreLedger$Journal", "hours", "[I", true)
  | 4 => ("TheatreLedger$Journal", "marks", "[I", true)
  | _ => ("TheatreLedger$Journal", "nextId", "I", false)
def tyX6 : Nat → FieldType := fun k => match k with
  | 0 => .array .int
  | 1 => .array .int
  | 2 => .array .long
  | 3 => .array .int
  | 4 => .array .int
  | _ => .int
abbrev wsX60 : List Cond := u_ws RX6 TX6 6
theorem nmX6 : ∀ a, a < 6 → ∀ b, b < 6 → a ≠ b → (TX6 a).2.1 ≠ (TX6 b).2.1 := by decide +kernel
theorem tyX6_ok : ∀ k, k < 6 → parseFieldDescriptor (TX6 k).2.2.1 = some (tyX6 k) := by decide +kernel
abbrev cX6_init : ByteArray := prog_8_method_1_code
def yX6_init : MethodName := ⟨RX6, "<init>", "()V"⟩
abbrev cX6_copyFrom : ByteArray := prog_8_method_2_code
def yX6_copyFrom : MethodName := ⟨RX6, "copyFrom", "(LTheatreLedger$Journal;)V"⟩
abbrev cX6_keptCount : ByteArray := prog_8_method_3_code
def yX6_keptCount : MethodName := ⟨RX6, "keptCount", "()I"⟩
abbrev cX6_idAt : ByteArray := prog_8_method_4_code
def yX6_idAt : MethodName := ⟨RX6, "idAt", "(I)I"⟩
abbrev cX6_has : ByteArray := prog_8_method_5_code
def yX6_has : MethodName := ⟨RX6, "has", "(I)Z"⟩
abbrev cX6_rowOf : ByteArray := prog_8_method_6_code
def yX6_rowOf : MethodName := ⟨RX6, "rowOf", "(I)I"⟩
abbrev cX6_faultOfReversal : ByteArray := prog_8_method_7_code
def yX6_faultOfReversal : MethodName := ⟨RX6, "faultOfReversal", "(I)LTheatreLedger$Fault;"⟩
abbrev cX6_add : ByteArray := prog_8_method_8_code
def yX6_add : MethodName := ⟨RX6, "add", "(IIJI)I"⟩
abbrev cX6_markReversed : ByteArray := prog_8_method_9_code
def yX6_markReversed : MethodName := ⟨RX6, "markReversed", "(I)V"⟩
abbrev cX6_markReversal : ByteArray := prog_8_method_10_code
def yX6_markReversal : MethodName := ⟨RX6, "markReversal", "(I)V"⟩
abbrev cX6_debitedBy : ByteArray := prog_8_method_11_code
def yX6_debitedBy : MethodName := ⟨RX6, "debitedBy", "(I)I"⟩
abbrev cX6_creditedBy : ByteArray := prog_8_method_12_code
def yX6_creditedBy : MethodName := ⟨RX6, "creditedBy", "(I)I"⟩
abbrev cX6_amountIn : ByteArray := prog_8_method_13_code
def yX6_amountIn : MethodName := ⟨RX6, "amountIn", "(I)J"⟩
abbrev cX6_hourAt : ByteArray := prog_8_method_14_code
def yX6_hourAt : MethodName := ⟨RX6, "hourAt", "(I)I"⟩
abbrev cX6_wasReversed : ByteArray := prog_8_method_15_code
def yX6_wasReversed : MethodName := ⟨RX6, "wasReversed", "(I)Z"⟩
def RX7 : String := "TheatreLedger$Matcher"
def TX7 : u_T := fun k => match k with
  | 0 => ("TheatreLedger$Matcher", "reached", "[Z", true)
  | _ => ("TheatreLedger$Matcher", "sums", "[I", true)
def tyX7 : Nat → FieldType := fun k => match k with
  | 0 => .array .boolean
  | _ => .array .int
abbrev wsX70 : List Cond := u_ws RX7 TX7 2
theorem nmX7 : ∀ a, a < 2 → ∀ b, b < 2 → a ≠ b → (TX7 a).2.1 ≠ (TX7 b).2.1 := by decide +kernel
theorem tyX7_ok : ∀ k, k < 2 → parseFieldDescriptor (TX7 k).2.2.1 = some (tyX7 k) := by decide +kernel
abbrev cX7_init : ByteArray := prog_9_method_1_code
def yX7_init : MethodName := ⟨RX7, "<init>", "()V"⟩
abbrev cX7_canReach : ByteArray := prog_9_method_2_code
def yX7_canReach : MethodName := ⟨RX7, "canReach", "(LTheatreLedger$Bills;I)Z"⟩
abbrev cX7_reachWith : ByteArray := prog_9_method_3_code
def yX7_reachWith : MethodName := ⟨RX7, "reachWith", "(II)V"⟩
abbrev cX7_hasSet : ByteArray := prog_9_method_4_code
def yX7_hasSet : MethodName := ⟨RX7, "hasSet", "(LTheatreLedger$Bills;I)Z"⟩
abbrev cX7_chosenSet : ByteArray := prog_9_method_5_code
def yX7_chosenSet : MethodName := ⟨RX7, "chosenSet", "(LTheatreLedger$Bills;I)I"⟩
abbrev cX7_sumSets : ByteArray := prog_9_method_6_code
def yX7_sumSets : MethodName := ⟨RX7, "sumSets", "(LTheatreLedger$Bills;)I"⟩
abbrev cX7_isPreferred : ByteArray := prog_9_method_7_code
def yX7_isPreferred : MethodName := ⟨RX7, "isPreferred", "(II)Z"⟩
abbrev cX7_waysAgree : ByteArray := prog_9_method_8_code
def yX7_waysAgree : MethodName := ⟨RX7, "waysAgree", "(LTheatreLedger$Bills;I)Z"⟩
def RX8 : String := "TheatreLedger$Prompts"
def TX8 : u_T := fun k => match k with
  | 0 => ("TheatreLedger$Prompts", "debited", "[I", true)
  | 1 => ("TheatreLedger$Prompts", "credited", "[I", true)
  | 2 => ("TheatreLedger$Prompts", "amounts", "[I", true)
  | 3 => ("TheatreLedger$Prompts", "periods", "[I", true)
  | 4 => ("TheatreLedger$Prompts", "hoursLeft", "[I", true)
  | 5 => ("TheatreLedger$Prompts", "timesLeft", "[I", true)
  | _ => ("TheatreLedger$Prompts", "count", "I", false)
def tyX8 : Nat → FieldType := fun k => match k with
  | 0 => .array .int
  | 1 => .array .int
  | 2 => .array .int
  | 3 => .array .int
  | 4 => .array .int
  | 5 => .array .int
  | _ => .int
abbrev wsX80 : List Cond := u_ws RX8 TX8 7
theorem nmX8 : ∀ a, a < 7 → ∀ b, b < 7 → a ≠ b → (TX8 a).2.1 ≠ (TX8 b).2.1 := by decide +kernel
theorem tyX8_ok : ∀ k, k < 7 → parseFieldDescriptor (TX8 k).2.2.1 = some (tyX8 k) := by decide +kernel
abbrev cX8_init : ByteArray := prog_10_method_1_code
def yX8_init : MethodName := ⟨RX8, "<init>", "()V"⟩
abbrev cX8_copyFrom : ByteArray := prog_10_method_2_code
def yX8_copyFrom : MethodName := ⟨RX8, "copyFrom", "(LTheatreLedger$Prompts;)V"⟩
abbrev cX8_has : ByteArray := prog_10_method_3_code
def yX8_has : MethodName := ⟨RX8, "has", "(I)Z"⟩
abbrev cX8_faultOfNew : ByteArray := prog_10_method_4_code
def yX8_faultOfNew : MethodName := ⟨RX8, "faultOfNew", "(II)LTheatreLedger$Fault;"⟩
abbrev cX8_add : ByteArray := prog_10_method_5_code
def yX8_add : MethodName := ⟨RX8, "add", "(IIIII)I"⟩
abbrev cX8_end : ByteArray := prog_10_method_6_code
def yX8_end : MethodName := ⟨RX8, "end", "(I)I"⟩
abbrev cX8_dropEnded : ByteArray := prog_10_method_7_code
def yX8_dropEnded : MethodName := ⟨RX8, "dropEnded", "()V"⟩
abbrev cX8_shift : ByteArray := prog_10_method_8_code
def yX8_shift : MethodName := ⟨RX8, "shift", "(II)V"⟩
abbrev cX8_comesDue : ByteArray := prog_10_method_9_code
def yX8_comesDue : MethodName := ⟨RX8, "comesDue", "(I)Z"⟩
abbrev cX8_debitedBy : ByteArray := prog_10_method_10_code
def yX8_debitedBy : MethodName := ⟨RX8, "debitedBy", "(I)I"⟩
abbrev cX8_creditedBy : ByteArray := prog_10_method_11_code
def yX8_creditedBy : MethodName := ⟨RX8, "creditedBy", "(I)I"⟩
abbrev cX8_amountIn : ByteArray := prog_10_method_12_code
def yX8_amountIn : MethodName := ⟨RX8, "amountIn", "(I)I"⟩
abbrev cX8_hoursLeftOf : ByteArray := prog_10_method_13_code
def yX8_hoursLeftOf : MethodName := ⟨RX8, "hoursLeftOf", "(I)I"⟩
abbrev cX8_timesLeftOf : ByteArray := prog_10_method_14_code
def yX8_timesLeftOf : MethodName := ⟨RX8, "timesLeftOf", "(I)I"⟩
abbrev cX8_netDebits : ByteArray := prog_10_method_15_code
def yX8_netDebits : MethodName := ⟨RX8, "netDebits", "(II)J"⟩
abbrev cX8_timesWithin : ByteArray := prog_10_method_16_code
def yX8_timesWithin : MethodName := ⟨RX8, "timesWithin", "(II)I"⟩
def RX9 : String := "TheatreLedger$Script"
def TX9 : u_T := fun k => match k with
  | 0 => ("TheatreLedger$Script", "text", "[C", true)
  | 1 => ("TheatreLedger$Script", "length", "I", false)
  | 2 => ("TheatreLedger$Script", "verbs", "[LTheatreLedger$Verb;", true)
  | 3 => ("TheatreLedger$Script", "values", "[I", true)
  | 4 => ("TheatreLedger$Script", "count", "I", false)
  | _ => ("TheatreLedger$Script", "at", "I", false)
def tyX9 : Nat → FieldType := fun k => match k with
  | 0 => .array .char
  | 1 => .int
  | 2 => .array (.object "TheatreLedger$Verb")
  | 3 => .array .int
  | 4 => .int
  | _ => .int
abbrev wsX90 : List Cond := u_ws RX9 TX9 6
theorem nmX9 : ∀ a, a < 6 → ∀ b, b < 6 → a ≠ b → (TX9 a).2.1 ≠ (TX9 b).2.1 := by decide +kernel
theorem tyX9_ok : ∀ k, k < 6 → parseFieldDescriptor (TX9 k).2.2.1 = some (tyX9 k) := by decide +kernel
abbrev cX9_init : ByteArray := prog_11_method_1_code
def yX9_init : MethodName := ⟨RX9, "<init>", "()V"⟩
abbrev cX9_append : ByteArray := prog_11_method_2_code
def yX9_append : MethodName := ⟨RX9, "append", "(C)I"⟩
abbrev cX9_verbAt : ByteArray := prog_11_method_3_code
def yX9_verbAt : MethodName := ⟨RX9, "verbAt", "(I)LTheatreLedger$Verb;"⟩
abbrev cX9_valueAt : ByteArray := prog_11_method_4_code
def yX9_valueAt : MethodName := ⟨RX9, "valueAt", "(II)I"⟩
abbrev cX9_read : ByteArray := prog_11_method_5_code
def yX9_read : MethodName := ⟨RX9, "read", "()Z"⟩
abbrev cX9_isNext : ByteArray := prog_11_method_6_code
def yX9_isNext : MethodName := ⟨RX9, "isNext", "(C)Z"⟩
abbrev cX9_readCommand : ByteArray := prog_11_method_7_code
def yX9_readCommand : MethodName := ⟨RX9, "readCommand", "()Z"⟩
abbrev cX9_readWord : ByteArray := prog_11_method_8_code
def yX9_readWord : MethodName := ⟨RX9, "readWord", "()LTheatreLedger$Verb;"⟩
abbrev cX9_sharedLetters : ByteArray := prog_11_method_9_code
def yX9_sharedLetters : MethodName := ⟨RX9, "sharedLetters", "(Ljava/lang/String;)I"⟩
abbrev cX9_readParts : ByteArray := prog_11_method_10_code
def yX9_readParts : MethodName := ⟨RX9, "readParts", "(Ljava/lang/String;)Z"⟩
abbrev cX9_readKind : ByteArray := prog_11_method_11_code
def yX9_readKind : MethodName := ⟨RX9, "readKind", "()I"⟩
abbrev cX9_readNumber : ByteArray := prog_11_method_12_code
def yX9_readNumber : MethodName := ⟨RX9, "readNumber", "(I)I"⟩
abbrev cX9_isDigitNext : ByteArray := prog_11_method_13_code
def yX9_isDigitNext : MethodName := ⟨RX9, "isDigitNext", "()Z"⟩
def RX10 : String := "TheatreLedger$Verb"
def TX10 : u_T := fun k => match k with
  | _ => ("", "", "", false)
def tyX10 : Nat → FieldType := fun k => match k with
  | _ => .int
abbrev wsX100 : List Cond := u_ws RX10 TX10 0
theorem nmX10 : ∀ a, a < 0 → ∀ b, b < 0 → a ≠ b → (TX10 a).2.1 ≠ (TX10 b).2.1 := by decide +kernel
theorem tyX10_ok : ∀ k, k < 0 → parseFieldDescriptor (TX10 k).2.2.1 = some (tyX10 k) := by decide +kernel
def RX11 : String := "TheatreLedger$Wardrobe"
def TX11 : u_T := fun k => match k with
  | 0 => ("TheatreLedger$Wardrobe", "counts", "[I", true)
  | 1 => ("TheatreLedger$Wardrobe", "prices", "[I", true)
  | _ => ("TheatreLedger$Wardrobe", "count", "I", false)
def tyX11 : Nat → FieldType := fun k => match k with
  | 0 => .array .int
  | 1 => .array .int
  | _ => .int
abbrev wsX110 : List Cond := u_ws RX11 TX11 3
theorem nmX11 : ∀ a, a < 3 → ∀ b, b < 3 → a ≠ b → (TX11 a).2.1 ≠ (TX11 b).2.1 := by decide +kernel
theorem tyX11_ok : ∀ k, k < 3 → parseFieldDescriptor (TX11 k).2.2.1 = some (tyX11 k) := by decide +kernel
abbrev cX11_init : ByteArray := prog_13_method_1_code
def yX11_init : MethodName := ⟨RX11, "<init>", "()V"⟩
abbrev cX11_copyFrom : ByteArray := prog_13_method_2_code
def yX11_copyFrom : MethodName := ⟨RX11, "copyFrom", "(LTheatreLedger$Wardrobe;)V"⟩
abbrev cX11_costumes : ByteArray := prog_13_method_3_code
def yX11_costumes : MethodName := ⟨RX11, "costumes", "()I"⟩
abbrev cX11_isTrade : ByteArray := prog_13_method_4_code
def yX11_isTrade : MethodName := ⟨RX11, "isTrade", "(II)Z"⟩
abbrev cX11_faultOfCount : ByteArray := prog_13_method_5_code
def yX11_faultOfCount : MethodName := ⟨RX11, "faultOfCount", "(I)LTheatreLedger$Fault;"⟩
abbrev cX11_faultOfSelling : ByteArray := prog_13_method_6_code
def yX11_faultOfSelling : MethodName := ⟨RX11, "faultOfSelling", "(II)LTheatreLedger$Fault;"⟩
abbrev cX11_add : ByteArray := prog_13_method_7_code
def yX11_add : MethodName := ⟨RX11, "add", "(II)V"⟩
abbrev cX11_take : ByteArray := prog_13_method_8_code
def yX11_take : MethodName := ⟨RX11, "take", "(I)V"⟩
abbrev cX11_costByLots : ByteArray := prog_13_method_9_code
def yX11_costByLots : MethodName := ⟨RX11, "costByLots", "(I)I"⟩
abbrev cX11_costOneByOne : ByteArray := prog_13_method_10_code
def yX11_costOneByOne : MethodName := ⟨RX11, "costOneByOne", "(I)I"⟩
abbrev cX11_priceOfCostume : ByteArray := prog_13_method_11_code
def yX11_priceOfCostume : MethodName := ⟨RX11, "priceOfCostume", "(I)I"⟩
abbrev cX11_costsAgree : ByteArray := prog_13_method_12_code
def yX11_costsAgree : MethodName := ⟨RX11, "costsAgree", "()Z"⟩
def RX12 : String := "TheatreLedger"
def TX12 : u_T := fun k => match k with
  | 0 => ("TheatreLedger", "books", "LTheatreLedger$Books;", true)
  | 1 => ("TheatreLedger", "saved", "LTheatreLedger$Books;", true)
  | 2 => ("TheatreLedger", "history", "LTheatreLedger$History;", true)
  | 3 => ("TheatreLedger", "matcher", "LTheatreLedger$Matcher;", true)
  | 4 => ("TheatreLedger", "script", "LTheatreLedger$Script;", true)
  | 5 => ("TheatreLedger", "output", "[C", true)
  | 6 => ("TheatreLedger", "outputLength", "I", false)
  | 7 => ("TheatreLedger", "isSaved", "Z", false)
  | 8 => ("TheatreLedger", "lastErrorPosition", "I", false)
  | _ => ("TheatreLedger", "lastFailedCommand", "I", false)
def tyX12 : Nat → FieldType := fun k => match k with
  | 0 => .object "TheatreLedger$Books"
  | 1 => .object "TheatreLedger$Books"
  | 2 => .object "TheatreLedger$History"
  | 3 => .object "TheatreLedger$Matcher"
  | 4 => .object "TheatreLedger$Script"
  | 5 => .array .char
  | 6 => .int
  | 7 => .boolean
  | 8 => .int
  | _ => .int
abbrev wsX120 : List Cond := u_ws RX12 TX12 10
theorem nmX12 : ∀ a, a < 10 → ∀ b, b < 10 → a ≠ b → (TX12 a).2.1 ≠ (TX12 b).2.1 := by decide +kernel
theorem tyX12_ok : ∀ k, k < 10 → parseFieldDescriptor (TX12 k).2.2.1 = some (tyX12 k) := by decide +kernel
abbrev cX12_init : ByteArray := prog_1_method_1_code
def yX12_init : MethodName := ⟨RX12, "<init>", "()V"⟩
abbrev cX12_open : ByteArray := prog_1_method_2_code
def yX12_open : MethodName := ⟨RX12, "open", "(C)I"⟩
abbrev cX12_openBelow : ByteArray := prog_1_method_3_code
def yX12_openBelow : MethodName := ⟨RX12, "openBelow", "(I)I"⟩
abbrev cX12_post : ByteArray := prog_1_method_4_code
def yX12_post : MethodName := ⟨RX12, "post", "(III)I"⟩
abbrev cX12_reverse : ByteArray := prog_1_method_5_code
def yX12_reverse : MethodName := ⟨RX12, "reverse", "(I)I"⟩
abbrev cX12_prompt : ByteArray := prog_1_method_6_code
def yX12_prompt : MethodName := ⟨RX12, "prompt", "(IIIII)I"⟩
abbrev cX12_cancelPrompt : ByteArray := prog_1_method_7_code
def yX12_cancelPrompt : MethodName := ⟨RX12, "cancelPrompt", "(I)I"⟩
abbrev cX12_passHours : ByteArray := prog_1_method_8_code
def yX12_passHours : MethodName := ⟨RX12, "passHours", "(I)I"⟩
abbrev cX12_buy : ByteArray := prog_1_method_9_code
def yX12_buy : MethodName := ⟨RX12, "buy", "(II)I"⟩
abbrev cX12_sell : ByteArray := prog_1_method_10_code
def yX12_sell : MethodName := ⟨RX12, "sell", "(II)I"⟩
abbrev cX12_bill : ByteArray := prog_1_method_11_code
def yX12_bill : MethodName := ⟨RX12, "bill", "(I)I"⟩
abbrev cX12_pay : ByteArray := prog_1_method_12_code
def yX12_pay : MethodName := ⟨RX12, "pay", "(I)I"⟩
abbrev cX12_curtain : ByteArray := prog_1_method_13_code
def yX12_curtain : MethodName := ⟨RX12, "curtain", "()I"⟩
abbrev cX12_hour : ByteArray := prog_1_method_14_code
def yX12_hour : MethodName := ⟨RX12, "hour", "()I"⟩
abbrev cX12_accountCount : ByteArray := prog_1_method_15_code
def yX12_accountCount : MethodName := ⟨RX12, "accountCount", "()I"⟩
abbrev cX12_kind : ByteArray := prog_1_method_16_code
def yX12_kind : MethodName := ⟨RX12, "kind", "(I)C"⟩
abbrev cX12_parent : ByteArray := prog_1_method_17_code
def yX12_parent : MethodName := ⟨RX12, "parent", "(I)I"⟩
abbrev cX12_debits : ByteArray := prog_1_method_18_code
def yX12_debits : MethodName := ⟨RX12, "debits", "(I)J"⟩
abbrev cX12_credits : ByteArray := prog_1_method_19_code
def yX12_credits : MethodName := ⟨RX12, "credits", "(I)J"⟩
abbrev cX12_balance : ByteArray := prog_1_method_20_code
def yX12_balance : MethodName := ⟨RX12, "balance", "(I)J"⟩
abbrev cX12_treeBalance : ByteArray := prog_1_method_21_code
def yX12_treeBalance : MethodName := ⟨RX12, "treeBalance", "(I)J"⟩
abbrev cX12_treeBalanceByParents : ByteArray := prog_1_method_22_code
def yX12_treeBalanceByParents : MethodName := ⟨RX12, "treeBalanceByParents", "(I)J"⟩
abbrev cX12_treeSize : ByteArray := prog_1_method_23_code
def yX12_treeSize : MethodName := ⟨RX12, "treeSize", "(I)I"⟩
abbrev cX12_sumOfDebits : ByteArray := prog_1_method_24_code
def yX12_sumOfDebits : MethodName := ⟨RX12, "sumOfDebits", "()J"⟩
abbrev cX12_sumOfCredits : ByteArray := prog_1_method_25_code
def yX12_sumOfCredits : MethodName := ⟨RX12, "sumOfCredits", "()J"⟩
abbrev cX12_profit : ByteArray := prog_1_method_26_code
def yX12_profit : MethodName := ⟨RX12, "profit", "()J"⟩
abbrev cX12_accountByBalance : ByteArray := prog_1_method_27_code
def yX12_accountByBalance : MethodName := ⟨RX12, "accountByBalance", "(I)I"⟩
abbrev cX12_curtainCount : ByteArray := prog_1_method_28_code
def yX12_curtainCount : MethodName := ⟨RX12, "curtainCount", "()I"⟩
abbrev cX12_claimShare : ByteArray := prog_1_method_29_code
def yX12_claimShare : MethodName := ⟨RX12, "claimShare", "()F"⟩
abbrev cX12_entryCount : ByteArray := prog_1_method_30_code
def yX12_entryCount : MethodName := ⟨RX12, "entryCount", "()I"⟩
abbrev cX12_entryAt : ByteArray := prog_1_method_31_code
def yX12_entryAt : MethodName := ⟨RX12, "entryAt", "(I)I"⟩
abbrev cX12_debitOf : ByteArray := prog_1_method_32_code
def yX12_debitOf : MethodName := ⟨RX12, "debitOf", "(I)I"⟩
abbrev cX12_creditOf : ByteArray := prog_1_method_33_code
def yX12_creditOf : MethodName := ⟨RX12, "creditOf", "(I)I"⟩
abbrev cX12_amountOf : ByteArray := prog_1_method_34_code
def yX12_amountOf : MethodName := ⟨RX12, "amountOf", "(I)J"⟩
abbrev cX12_hourOf : ByteArray := prog_1_method_35_code
def yX12_hourOf : MethodName := ⟨RX12, "hourOf", "(I)I"⟩
abbrev cX12_isReversed : ByteArray := prog_1_method_36_code
def yX12_isReversed : MethodName := ⟨RX12, "isReversed", "(I)Z"⟩
abbrev cX12_promptCount : ByteArray := prog_1_method_37_code
def yX12_promptCount : MethodName := ⟨RX12, "promptCount", "()I"⟩
abbrev cX12_hoursUntilPrompt : ByteArray := prog_1_method_38_code
def yX12_hoursUntilPrompt : MethodName := ⟨RX12, "hoursUntilPrompt", "(I)I"⟩
abbrev cX12_timesLeft : ByteArray := prog_1_method_39_code
def yX12_timesLeft : MethodName := ⟨RX12, "timesLeft", "(I)I"⟩
abbrev cX12_cashIn : ByteArray := prog_1_method_40_code
def yX12_cashIn : MethodName := ⟨RX12, "cashIn", "(I)J"⟩
abbrev cX12_costumeCount : ByteArray := prog_1_method_41_code
def yX12_costumeCount : MethodName := ⟨RX12, "costumeCount", "()I"⟩
abbrev cX12_lotCount : ByteArray := prog_1_method_42_code
def yX12_lotCount : MethodName := ⟨RX12, "lotCount", "()I"⟩
abbrev cX12_costOf : ByteArray := prog_1_method_43_code
def yX12_costOf : MethodName := ⟨RX12, "costOf", "(I)I"⟩
abbrev cX12_costByCostumes : ByteArray := prog_1_method_44_code
def yX12_costByCostumes : MethodName := ⟨RX12, "costByCostumes", "(I)I"⟩
abbrev cX12_meanPrice : ByteArray := prog_1_method_45_code
def yX12_meanPrice : MethodName := ⟨RX12, "meanPrice", "()D"⟩
abbrev cX12_billCount : ByteArray := prog_1_method_46_code
def yX12_billCount : MethodName := ⟨RX12, "billCount", "()I"⟩
abbrev cX12_billAt : ByteArray := prog_1_method_47_code
def yX12_billAt : MethodName := ⟨RX12, "billAt", "(I)I"⟩
abbrev cX12_openAmount : ByteArray := prog_1_method_48_code
def yX12_openAmount : MethodName := ⟨RX12, "openAmount", "(I)I"⟩
abbrev cX12_openTotal : ByteArray := prog_1_method_49_code
def yX12_openTotal : MethodName := ⟨RX12, "openTotal", "()I"⟩
abbrev cX12_isMatched : ByteArray := prog_1_method_50_code
def yX12_isMatched : MethodName := ⟨RX12, "isMatched", "(I)Z"⟩
abbrev cX12_isMatchedBySets : ByteArray := prog_1_method_51_code
def yX12_isMatchedBySets : MethodName := ⟨RX12, "isMatchedBySets", "(I)Z"⟩
abbrev cX12_matchSize : ByteArray := prog_1_method_52_code
def yX12_matchSize : MethodName := ⟨RX12, "matchSize", "(I)I"⟩
abbrev cX12_isInMatch : ByteArray := prog_1_method_53_code
def yX12_isInMatch : MethodName := ⟨RX12, "isInMatch", "(II)Z"⟩
abbrev cX12_isConsistent : ByteArray := prog_1_method_54_code
def yX12_isConsistent : MethodName := ⟨RX12, "isConsistent", "()Z"⟩
abbrev cX12_feed : ByteArray := prog_1_method_55_code
def yX12_feed : MethodName := ⟨RX12, "feed", "(C)I"⟩
abbrev cX12_runCommands : ByteArray := prog_1_method_56_code
def yX12_runCommands : MethodName := ⟨RX12, "runCommands", "()I"⟩
abbrev cX12_errorPosition : ByteArray := prog_1_method_57_code
def yX12_errorPosition : MethodName := ⟨RX12, "errorPosition", "()I"⟩
abbrev cX12_failedCommand : ByteArray := prog_1_method_58_code
def yX12_failedCommand : MethodName := ⟨RX12, "failedCommand", "()I"⟩
abbrev cX12_writeEntry : ByteArray := prog_1_method_59_code
def yX12_writeEntry : MethodName := ⟨RX12, "writeEntry", "(I)I"⟩
abbrev cX12_outputChar : ByteArray := prog_1_method_60_code
def yX12_outputChar : MethodName := ⟨RX12, "outputChar", "(I)C"⟩
abbrev cX12_undo : ByteArray := prog_1_method_62_code
def yX12_undo : MethodName := ⟨RX12, "undo", "()I"⟩
abbrev cX12_save : ByteArray := prog_1_method_63_code
def yX12_save : MethodName := ⟨RX12, "save", "()I"⟩
abbrev cX12_restore : ByteArray := prog_1_method_64_code
def yX12_restore : MethodName := ⟨RX12, "restore", "()I"⟩
abbrev cX12_record : ByteArray := prog_1_method_65_code
def yX12_record : MethodName := ⟨RX12, "record", "()V"⟩
abbrev cX12_refuse : ByteArray := prog_1_method_66_code
def yX12_refuse : MethodName := ⟨RX12, "refuse", "(LTheatreLedger$Fault;)V"⟩
abbrev cX12_checkAccount : ByteArray := prog_1_method_67_code
def yX12_checkAccount : MethodName := ⟨RX12, "checkAccount", "(I)V"⟩
abbrev cX12_checkEntry : ByteArray := prog_1_method_68_code
def yX12_checkEntry : MethodName := ⟨RX12, "checkEntry", "(I)V"⟩
abbrev cX12_checkPrompt : ByteArray := prog_1_method_69_code
def yX12_checkPrompt : MethodName := ⟨RX12, "checkPrompt", "(I)V"⟩
abbrev cX12_checkedPlaceOf : ByteArray := prog_1_method_70_code
def yX12_checkedPlaceOf : MethodName := ⟨RX12, "checkedPlaceOf", "(I)I"⟩
abbrev cX12_checkAmount : ByteArray := prog_1_method_71_code
def yX12_checkAmount : MethodName := ⟨RX12, "checkAmount", "(I)V"⟩
abbrev cX12_isWithin : ByteArray := prog_1_method_72_code
def yX12_isWithin : MethodName := ⟨RX12, "isWithin", "(III)Z"⟩
abbrev cX12_isKind : ByteArray := prog_1_method_73_code
def yX12_isKind : MethodName := ⟨RX12, "isKind", "(C)Z"⟩
abbrev cX12_isInSet : ByteArray := prog_1_method_74_code
def yX12_isInSet : MethodName := ⟨RX12, "isInSet", "(II)Z"⟩
abbrev cX12_faultOfHours : ByteArray := prog_1_method_75_code
def yX12_faultOfHours : MethodName := ⟨RX12, "faultOfHours", "(I)LTheatreLedger$Fault;"⟩
abbrev cX12_carryOut : ByteArray := prog_1_method_76_code
def yX12_carryOut : MethodName := ⟨RX12, "carryOut", "(I)LTheatreLedger$Fault;"⟩
abbrev cX12_commandPost : ByteArray := prog_1_method_77_code
def yX12_commandPost : MethodName := ⟨RX12, "commandPost", "(III)LTheatreLedger$Fault;"⟩
abbrev cX12_commandBack : ByteArray := prog_1_method_78_code
def yX12_commandBack : MethodName := ⟨RX12, "commandBack", "(I)LTheatreLedger$Fault;"⟩
abbrev cX12_commandOpen : ByteArray := prog_1_method_79_code
def yX12_commandOpen : MethodName := ⟨RX12, "commandOpen", "(CI)LTheatreLedger$Fault;"⟩
abbrev cX12_commandBuy : ByteArray := prog_1_method_80_code
def yX12_commandBuy : MethodName := ⟨RX12, "commandBuy", "(II)LTheatreLedger$Fault;"⟩
abbrev cX12_commandSell : ByteArray := prog_1_method_81_code
def yX12_commandSell : MethodName := ⟨RX12, "commandSell", "(II)LTheatreLedger$Fault;"⟩
abbrev cX12_commandBill : ByteArray := prog_1_method_82_code
def yX12_commandBill : MethodName := ⟨RX12, "commandBill", "(I)LTheatreLedger$Fault;"⟩
abbrev cX12_commandPay : ByteArray := prog_1_method_83_code
def yX12_commandPay : MethodName := ⟨RX12, "commandPay", "(I)LTheatreLedger$Fault;"⟩
abbrev cX12_commandWait : ByteArray := prog_1_method_84_code
def yX12_commandWait : MethodName := ⟨RX12, "commandWait", "(I)LTheatreLedger$Fault;"⟩
abbrev cX12_putSign : ByteArray := prog_1_method_85_code
def yX12_putSign : MethodName := ⟨RX12, "putSign", "(C)V"⟩
abbrev cX12_putNumber : ByteArray := prog_1_method_86_code
def yX12_putNumber : MethodName := ⟨RX12, "putNumber", "(J)V"⟩
def RX13 : String := "TheatreLedgerModel"
def TX13 : u_T := fun k => match k with
  | _ => ("", "", "", false)
def tyX13 : Nat → FieldType := fun k => match k with
  | _ => .int
abbrev wsX130 : List Cond := u_ws RX13 TX13 0
theorem nmX13 : ∀ a, a < 0 → ∀ b, b < 0 → a ≠ b → (TX13 a).2.1 ≠ (TX13 b).2.1 := by decide +kernel
theorem tyX13_ok : ∀ k, k < 0 → parseFieldDescriptor (TX13 k).2.2.1 = some (tyX13 k) := by decide +kernel
def RJx145de : String := "java/io/Serializable"
def TJx145de : u_T := fun k => match k with
  | _ => ("", "", "", false)
def tyJx145de : Nat → FieldType := fun k => match k with
  | _ => .int
abbrev wsJx145de0 : List Cond := u_ws RJx145de TJx145de 0
theorem nmJx145de : ∀ a, a < 0 → ∀ b, b < 0 → a ≠ b → (TJx145de a).2.1 ≠ (TJx145de b).2.1 := by decide +kernel
theorem tyJx145de_ok : ∀ k, k < 0 → parseFieldDescriptor (TJx145de k).2.2.1 = some (tyJx145de k) := by decide +kernel
def RJx00060 : String := "java/lang/ArrayIndexOutOfBoundsException"
def TJx00060 : u_T := fun k => match k with
  | 0 => ("java/lang/Throwable", "backtrace", "Ljava/lang/Object;", false)
  | 1 => ("java/lang/Throwable", "detailMessage", "Ljava/lang/String;", false)
  | 2 => ("java/lang/Throwable", "cause", "Ljava/lang/Throwable;", false)
  | 3 => ("java/lang/Throwable", "stackTrace", "[Ljava/lang/StackTraceElement;", false)
  | 4 => ("java/lang/Throwable", "depth", "I", false)
  | _ => ("java/lang/Throwable", "suppressedExceptions", "Ljava/util/List;", false)
def tyJx00060 : Nat → FieldType := fun k => match k with
  | 0 => .object "java/lang/Object"
  | 1 => .object "java/lang/String"
  | 2 => .object "java/lang/Throwable"
  | 3 => .array (.object "java/lang/StackTraceElement")
  | 4 => .int
  | _ => .object "java/util/List"
abbrev wsJx000600 : List Cond := u_ws RJx00060 TJx00060 6
theorem nmJx00060 : ∀ a, a < 6 → ∀ b, b < 6 → a ≠ b → (TJx00060 a).2.1 ≠ (TJx00060 b).2.1 := by decide +kernel
theorem tyJx00060_ok : ∀ k, k < 6 → parseFieldDescriptor (TJx00060 k).2.2.1 = some (tyJx00060 k) := by decide +kernel
abbrev cJx00060_init_a7421 : ByteArray := prog_18_method_2_code
def yJx00060_init_a7421 : MethodName := ⟨RJx00060, "<init>", "(Ljava/lang/String;)V"⟩
def RJx9f9b0 : String := "java/lang/CharSequence"
def TJx9f9b0 : u_T := fun k => match k with
  | _ => ("", "", "", false)
def tyJx9f9b0 : Nat → FieldType := fun k => match k with
  | _ => .int
abbrev wsJx9f9b00 : List Cond := u_ws RJx9f9b0 TJx9f9b0 0
theorem nmJx9f9b0 : ∀ a, a < 0 → ∀ b, b < 0 → a ≠ b → (TJx9f9b0 a).2.1 ≠ (TJx9f9b0 b).2.1 := by decide +kernel
theorem tyJx9f9b0_ok : ∀ k, k < 0 → parseFieldDescriptor (TJx9f9b0 k).2.2.1 = some (tyJx9f9b0 k) := by decide +kernel
def RJxb160c : String := "java/lang/Comparable"
def TJxb160c : u_T := fun k => match k with
  | _ => ("", "", "", false)
def tyJxb160c : Nat → FieldType := fun k => match k with
  | _ => .int
abbrev wsJxb160c0 : List Cond := u_ws RJxb160c TJxb160c 0
theorem nmJxb160c : ∀ a, a < 0 → ∀ b, b < 0 → a ≠ b → (TJxb160c a).2.1 ≠ (TJxb160c b).2.1 := by decide +kernel
theorem tyJxb160c_ok : ∀ k, k < 0 → parseFieldDescriptor (TJxb160c k).2.2.1 = some (tyJxb160c k) := by decide +kernel
def RJx29ce0 : String := "java/lang/Enum"
def TJx29ce0 : u_T := fun k => match k with
  | _ => ("", "", "", false)
def tyJx29ce0 : Nat → FieldType := fun k => match k with
  | _ => .int
abbrev wsJx29ce00 : List Cond := u_ws RJx29ce0 TJx29ce0 0
theorem nmJx29ce0 : ∀ a, a < 0 → ∀ b, b < 0 → a ≠ b → (TJx29ce0 a).2.1 ≠ (TJx29ce0 b).2.1 := by decide +kernel
theorem tyJx29ce0_ok : ∀ k, k < 0 → parseFieldDescriptor (TJx29ce0 k).2.2.1 = some (tyJx29ce0 k) := by decide +kernel
abbrev cJx29ce0_ordinal_8abf5 : ByteArray := prog_21_method_2_code
def yJx29ce0_ordinal_8abf5 : MethodName := ⟨RJx29ce0, "ordinal", "()I"⟩
def RJ6 : String := "java/lang/Integer"
def TJ6 : u_T := fun k => match k with
  | _ => ("", "", "", false)
def tyJ6 : Nat → FieldType := fun k => match k with
  | _ => .int
abbrev wsJ60 : List Cond := u_ws RJ6 TJ6 0
theorem nmJ6 : ∀ a, a < 0 → ∀ b, b < 0 → a ≠ b → (TJ6 a).2.1 ≠ (TJ6 b).2.1 := by decide +kernel
theorem tyJ6_ok : ∀ k, k < 0 → parseFieldDescriptor (TJ6 k).2.2.1 = some (tyJ6 k) := by decide +kernel
abbrev cJ6_bitCount_0f7a4 : ByteArray := prog_26_method_49_code
def yJ6_bitCount_0f7a4 : MethodName := ⟨RJ6, "bitCount", "(I)I"⟩
def RJ9 : String := "java/lang/Math"
def TJ9 : u_T := fun k => match k with
  | _ => ("", "", "", false)
def tyJ9 : Nat → FieldType := fun k => match k with
  | _ => .int
abbrev wsJ90 : List Cond := u_ws RJ9 TJ9 0
theorem nmJ9 : ∀ a, a < 0 → ∀ b, b < 0 → a ≠ b → (TJ9 a).2.1 ≠ (TJ9 b).2.1 := by decide +kernel
theorem tyJ9_ok : ∀ k, k < 0 → parseFieldDescriptor (TJ9 k).2.2.1 = some (tyJ9 k) := by decide +kernel
abbrev cJ9_floorMod_7cf53 : ByteArray := prog_27_method_50_code
def yJ9_floorMod_7cf53 : MethodName := ⟨RJ9, "floorMod", "(II)I"⟩
abbrev cJ9_max_7cf53 : ByteArray := prog_27_method_65_code
def yJ9_max_7cf53 : MethodName := ⟨RJ9, "max", "(II)I"⟩
abbrev cJ9_min_7cf53 : ByteArray := prog_27_method_69_code
def yJ9_min_7cf53 : MethodName := ⟨RJ9, "min", "(II)I"⟩
def RJ0 : String := "java/lang/String"
def TJ0 : u_T := fun k => match k with
  | 0 => ("java/lang/String", "value", "[B", true)
  | _ => ("java/lang/String", "coder", "B", true)
def tyJ0 : Nat → FieldType := fun k => match k with
  | 0 => .array .byte
  | _ => .byte
abbrev wsJ00 : List Cond := u_ws RJ0 TJ0 2
theorem nmJ0 : ∀ a, a < 2 → ∀ b, b < 2 → a ≠ b → (TJ0 a).2.1 ≠ (TJ0 b).2.1 := by decide +kernel
theorem tyJ0_ok : ∀ k, k < 2 → parseFieldDescriptor (TJ0 k).2.2.1 = some (tyJ0 k) := by decide +kernel
abbrev cJ0_length_8abf5 : ByteArray := prog_29_method_54_code
def yJ0_length_8abf5 : MethodName := ⟨RJ0, "length", "()I"⟩
abbrev cJ0_charAt_5068e : ByteArray := prog_29_method_56_code
def yJ0_charAt_5068e : MethodName := ⟨RJ0, "charAt", "(I)C"⟩
abbrev cJ0_coder_7d493 : ByteArray := prog_29_method_152_code
def yJ0_coder_7d493 : MethodName := ⟨RJ0, "coder", "()B"⟩
abbrev cJ0_isLatin1_aae02 : ByteArray := prog_29_method_154_code
def yJ0_isLatin1_aae02 : MethodName := ⟨RJ0, "isLatin1", "()Z"⟩
abbrev cJ0_checkIndex_df160 : ByteArray := prog_29_method_155_code
def yJ0_checkIndex_df160 : MethodName := ⟨RJ0, "checkIndex", "(II)V"⟩
def RJ1 : String := "java/lang/StringLatin1"
def TJ1 : u_T := fun k => match k with
  | _ => ("", "", "", false)
def tyJ1 : Nat → FieldType := fun k => match k with
  | _ => .int
abbrev wsJ10 : List Cond := u_ws RJ1 TJ1 0
theorem nmJ1 : ∀ a, a < 0 → ∀ b, b < 0 → a ≠ b → (TJ1 a).2.1 ≠ (TJ1 b).2.1 := by decide +kernel
theorem tyJ1_ok : ∀ k, k < 0 → parseFieldDescriptor (TJ1 k).2.2.1 = some (tyJ1 k) := by decide +kernel
abbrev cJ1_charAt_3b067 : ByteArray := prog_30_method_2_code
def yJ1_charAt_3b067 : MethodName := ⟨RJ1, "charAt", "([BI)C"⟩
def RJ2 : String := "java/lang/StringUTF16"
def TJ2 : u_T := fun k => match k with
  | _ => ("", "", "", false)
def tyJ2 : Nat → FieldType := fun k => match k with
  | _ => .int
abbrev wsJ20 : List Cond := u_ws RJ2 TJ2 0
theorem nmJ2 : ∀ a, a < 0 → ∀ b, b < 0 → a ≠ b → (TJ2 a).2.1 ≠ (TJ2 b).2.1 := by decide +kernel
theorem tyJ2_ok : ∀ k, k < 0 → parseFieldDescriptor (TJ2 k).2.2.1 = some (tyJ2 k) := by decide +kernel
abbrev cJ2_getChar_3b067 : ByteArray := prog_31_method_5_code
def yJ2_getChar_3b067 : MethodName := ⟨RJ2, "getChar", "([BI)C"⟩
abbrev cJ2_length_9d52b : ByteArray := prog_31_method_6_code
def yJ2_length_9d52b : MethodName := ⟨RJ2, "length", "([B)I"⟩
abbrev cJ2_charAt_3b067 : ByteArray := prog_31_method_83_code
def yJ2_charAt_3b067 : MethodName := ⟨RJ2, "charAt", "([BI)C"⟩
abbrev cJ2_checkIndex_2214a : ByteArray := prog_31_method_91_code
def yJ2_checkIndex_2214a : MethodName := ⟨RJ2, "checkIndex", "(I[B)V"⟩
def RJ10 : String := "java/lang/System"
def TJ10 : u_T := fun k => match k with
  | _ => ("", "", "", false)
def tyJ10 : Nat → FieldType := fun k => match k with
  | _ => .int
abbrev wsJ100 : List Cond := u_ws RJ10 TJ10 0
theorem nmJ10 : ∀ a, a < 0 → ∀ b, b < 0 → a ≠ b → (TJ10 a).2.1 ≠ (TJ10 b).2.1 := by decide +kernel
theorem tyJ10_ok : ∀ k, k < 0 → parseFieldDescriptor (TJ10 k).2.2.1 = some (tyJ10 k) := by decide +kernel
def RJxfd54e : String := "java/lang/constant/Constable"
def TJxfd54e : u_T := fun k => match k with
  | _ => ("", "", "", false)
def tyJxfd54e : Nat → FieldType := fun k => match k with
  | _ => .int
abbrev wsJxfd54e0 : List Cond := u_ws RJxfd54e TJxfd54e 0
theorem nmJxfd54e : ∀ a, a < 0 → ∀ b, b < 0 → a ≠ b → (TJxfd54e a).2.1 ≠ (TJxfd54e b).2.1 := by decide +kernel
theorem tyJxfd54e_ok : ∀ k, k < 0 → parseFieldDescriptor (TJxfd54e k).2.2.1 = some (tyJxfd54e k) := by decide +kernel
def RJx3cf43 : String := "java/lang/constant/ConstantDesc"
def TJx3cf43 : u_T := fun k => match k with
  | _ => ("", "", "", false)
def tyJx3cf43 : Nat → FieldType := fun k => match k with
  | _ => .int
abbrev wsJx3cf430 : List Cond := u_ws RJx3cf43 TJx3cf43 0
theorem nmJx3cf43 : ∀ a, a < 0 → ∀ b, b < 0 → a ≠ b → (TJx3cf43 a).2.1 ≠ (TJx3cf43 b).2.1 := by decide +kernel
theorem tyJx3cf43_ok : ∀ k, k < 0 → parseFieldDescriptor (TJx3cf43 k).2.2.1 = some (tyJx3cf43 k) := by decide +kernel
def RJ3 : String := "jdk/internal/util/Preconditions"
def TJ3 : u_T := fun k => match k with
  | _ => ("", "", "", false)
def tyJ3 : Nat → FieldType := fun k => match k with
  | _ => .int
abbrev wsJ30 : List Cond := u_ws RJ3 TJ3 0
theorem nmJ3 : ∀ a, a < 0 → ∀ b, b < 0 → a ≠ b → (TJ3 a).2.1 ≠ (TJ3 b).2.1 := by decide +kernel
theorem tyJ3_ok : ∀ k, k < 0 → parseFieldDescriptor (TJ3 k).2.2.1 = some (tyJ3 k) := by decide +kernel
abbrev cJ3_checkIndex_8e157 : ByteArray := prog_38_method_11_code
def yJ3_checkIndex_8e157 : MethodName := ⟨RJ3, "checkIndex", "(IILjava/util/function/BiFunction;)I"⟩
def RL : String := "TheatreLedgerLaw"
abbrev cL_at : ByteArray := method_2_code
def yL_at : MethodName := ⟨RL, "at", "([II)I"⟩
abbrev cL_put : ByteArray := method_3_code
def yL_put : MethodName := ⟨RL, "put", "(LTheatreLedger;Ljava/lang/String;)V"⟩
abbrev cL_build : ByteArray := method_4_code
def yL_build : MethodName := ⟨RL, "build", "([I)LTheatreLedger;"⟩
abbrev cL_entry : ByteArray := method_5_code
def yL_entry : MethodName := ⟨RL, "entry", "(LTheatreLedger;III)I"⟩
abbrev cL_prompt : ByteArray := method_6_code
def yL_prompt : MethodName := ⟨RL, "prompt", "(LTheatreLedger;IIIII)I"⟩
abbrev cL_act : ByteArray := method_7_code
def yL_act : MethodName := ⟨RL, "act", "(LTheatreLedger;III)I"⟩
abbrev cL_state : ByteArray := method_8_code
def yL_state : MethodName := ⟨RL, "state", "(LTheatreLedger;)I"⟩
abbrev cL_law : ByteArray := code
def yL_law : MethodName := ⟨RL, "law", "([I)Z"⟩
abbrev cL_isOutput : ByteArray := method_10_code
def yL_isOutput : MethodName := ⟨RL, "isOutput", "(LTheatreLedger;ILjava/lang/String;)Z"⟩
abbrev cL_runs : ByteArray := method_11_code
def yL_runs : MethodName := ⟨RL, "runs", "(LTheatreLedger;)I"⟩
abbrev cL_fails : ByteArray := method_12_code
def yL_fails : MethodName := ⟨RL, "fails", "(LTheatreLedger;Ljava/lang/String;I)Z"⟩
abbrev vwCl : List vw_C := [(RJ0, TJ0, 2), (RJx00060, TJx00060, 6), (RX1, TX1, 5), (RX2, TX2, 4), (RX3, TX3, 7), (RX5, TX5, 3), (RX6, TX6, 6), (RX7, TX7, 2), (RX8, TX8, 7), (RX9, TX9, 6), (RX11, TX11, 3), (RX12, TX12, 10)]
