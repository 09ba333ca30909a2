def RX0 : String := "CricketCooperative$Dividends"
def TX0 : u_T := fun k => match k with
  | 0 => ("CricketCooperative$Dividends", "coins", "[I", true)
  | _ => ("CricketCooperative$Dividends", "remainders", "[I", true)
def tyX0 : Nat → FieldType := fun k => match k with
  | 0 => .array .int
  | _ => .array .int
abbrev wsX00 : List Cond := u_ws RX0 TX0 2
theorem nmX0 : ∀ a, a < 2 → ∀ b, b < 2 → a ≠ b → (TX0 a).2.1 ≠ (TX0 b).2.1 := by decide +kernel
theorem tyX0_ok : ∀ k, k < 2 → parseFieldDescriptor (TX0 k).2.2.1 = some (tyX0 k) := by decide +kernel
abbrev cX0_init : ByteArray := prog_2_method_1_code
def yX0_init : MethodName := ⟨RX0, "<init>", "()V"⟩
abbrev cX0_byGiving : ByteArray := prog_2_method_2_code
def yX0_byGiving : MethodName := ⟨RX0, "byGiving", "(LCricketCooperative$State;I)I"⟩
abbrev cX0_byCounting : ByteArray := prog_2_method_3_code
def yX0_byCounting : MethodName := ⟨RX0, "byCounting", "(LCricketCooperative$State;I)I"⟩
abbrev cX0_payOut : ByteArray := prog_2_method_4_code
def yX0_payOut : MethodName := ⟨RX0, "payOut", "(LCricketCooperative$State;)I"⟩
abbrev cX0_giveAll : ByteArray := prog_2_method_5_code
def yX0_giveAll : MethodName := ⟨RX0, "giveAll", "(LCricketCooperative$State;)V"⟩
abbrev cX0_divide : ByteArray := prog_2_method_6_code
def yX0_divide : MethodName := ⟨RX0, "divide", "(LCricketCooperative$State;)I"⟩
abbrev cX0_greatestRemainder : ByteArray := prog_2_method_7_code
def yX0_greatestRemainder : MethodName := ⟨RX0, "greatestRemainder", "(I)I"⟩
def RX1 : String := "CricketCooperative$Groups"
def TX1 : u_T := fun k => match k with
  | 0 => ("CricketCooperative$Groups", "sharesOf", "[I", true)
  | _ => ("CricketCooperative$Groups", "groupsWith", "[I", true)
def tyX1 : Nat → FieldType := fun k => match k with
  | 0 => .array .int
  | _ => .array .int
abbrev wsX10 : List Cond := u_ws RX1 TX1 2
theorem nmX1 : ∀ a, a < 2 → ∀ b, b < 2 → a ≠ b → (TX1 a).2.1 ≠ (TX1 b).2.1 := by decide +kernel
theorem tyX1_ok : ∀ k, k < 2 → parseFieldDescriptor (TX1 k).2.2.1 = some (tyX1 k) := by decide +kernel
abbrev cX1_init : ByteArray := prog_3_method_1_code
def yX1_init : MethodName := ⟨RX1, "<init>", "()V"⟩
abbrev cX1_winningByTrying : ByteArray := prog_3_method_2_code
def yX1_winningByTrying : MethodName := ⟨RX1, "winningByTrying", "(LCricketCooperative$State;)I"⟩
abbrev cX1_decisiveByTrying : ByteArray := prog_3_method_3_code
def yX1_decisiveByTrying : MethodName := ⟨RX1, "decisiveByTrying", "(LCricketCooperative$State;I)I"⟩
abbrev cX1_powerOfAll : ByteArray := prog_3_method_4_code
def yX1_powerOfAll : MethodName := ⟨RX1, "powerOfAll", "(LCricketCooperative$State;)I"⟩
abbrev cX1_fewestThatWin : ByteArray := prog_3_method_5_code
def yX1_fewestThatWin : MethodName := ⟨RX1, "fewestThatWin", "(LCricketCooperative$State;)I"⟩
abbrev cX1_winningByTable : ByteArray := prog_3_method_6_code
def yX1_winningByTable : MethodName := ⟨RX1, "winningByTable", "(LCricketCooperative$State;)I"⟩
abbrev cX1_decisiveByTable : ByteArray := prog_3_method_7_code
def yX1_decisiveByTable : MethodName := ⟨RX1, "decisiveByTable", "(LCricketCooperative$State;I)I"⟩
abbrev cX1_addUpGroups : ByteArray := prog_3_method_8_code
def yX1_addUpGroups : MethodName := ⟨RX1, "addUpGroups", "(LCricketCooperative$State;)I"⟩
abbrev cX1_fillTable : ByteArray := prog_3_method_9_code
def yX1_fillTable : MethodName := ⟨RX1, "fillTable", "(LCricketCooperative$State;I)I"⟩
abbrev cX1_countBetween : ByteArray := prog_3_method_10_code
def yX1_countBetween : MethodName := ⟨RX1, "countBetween", "(II)I"⟩
def RX2 : String := "CricketCooperative$History"
def TX2 : u_T := fun k => match k with
  | 0 => ("CricketCooperative$History", "before", "[LCricketCooperative$State;", true)
  | 1 => ("CricketCooperative$History", "next", "I", false)
  | _ => ("CricketCooperative$History", "count", "I", false)
def tyX2 : Nat → FieldType := fun k => match k with
  | 0 => .array (.object "CricketCooperative$State")
  | 1 => .int
  | _ => .int
abbrev wsX20 : List Cond := u_ws RX2 TX2 3
theorem nmX2 : ∀ a, a < 3 → ∀ b, b < 3 → a ≠ b → (TX2 a).2.1 ≠ (TX2 b).2.1 := by decide +kernel
theorem tyX2_ok : ∀ k, k < 3 → parseFieldDescriptor (TX2 k).2.2.1 = some (tyX2 k) := by decide +kernel
abbrev cX2_init : ByteArray := prog_4_method_1_code
def yX2_init : MethodName := ⟨RX2, "<init>", "()V"⟩
abbrev cX2_remember : ByteArray := prog_4_method_2_code
def yX2_remember : MethodName := ⟨RX2, "remember", "(LCricketCooperative$State;)V"⟩
abbrev cX2_takeBack : ByteArray := prog_4_method_3_code
def yX2_takeBack : MethodName := ⟨RX2, "takeBack", "(LCricketCooperative$State;)I"⟩
abbrev cX2_forget : ByteArray := prog_4_method_4_code
def yX2_forget : MethodName := ⟨RX2, "forget", "()V"⟩
def RX3 : String := "CricketCooperative$Program"
def TX3 : u_T := fun k => match k with
  | 0 => ("CricketCooperative$Program", "text", "[C", true)
  | 1 => ("CricketCooperative$Program", "kinds", "[I", true)
  | 2 => ("CricketCooperative$Program", "arguments", "[I", true)
  | 3 => ("CricketCooperative$Program", "length", "I", false)
  | 4 => ("CricketCooperative$Program", "commandCount", "I", false)
  | _ => ("CricketCooperative$Program", "position", "I", false)
def tyX3 : Nat → FieldType := fun k => match k with
  | 0 => .array .char
  | 1 => .array .int
  | 2 => .array .int
  | 3 => .int
  | 4 => .int
  | _ => .int
abbrev wsX30 : List Cond := u_ws RX3 TX3 6
theorem nmX3 : ∀ a, a < 6 → ∀ b, b < 6 → a ≠ b → (TX3 a).2.1 ≠ (TX3 b).2.1 := by decide +kernel
theorem tyX3_ok : ∀ k, k < 6 → parseFieldDescriptor (TX3 k).2.2.1 = some (tyX3 k) := by decide +kernel
abbrev cX3_init : ByteArray := prog_5_method_1_code
def yX3_init : MethodName := ⟨RX3, "<init>", "()V"⟩
abbrev cX3_isFull : ByteArray := prog_5_method_2_code
def yX3_isFull : MethodName := ⟨RX3, "isFull", "()Z"⟩
abbrev cX3_add : ByteArray := prog_5_method_3_code
def yX3_add : MethodName := ⟨RX3, "add", "(C)I"⟩
abbrev cX3_emptyText : ByteArray := prog_5_method_4_code
def yX3_emptyText : MethodName := ⟨RX3, "emptyText", "()V"⟩
abbrev cX3_kindOf : ByteArray := prog_5_method_5_code
def yX3_kindOf : MethodName := ⟨RX3, "kindOf", "(I)I"⟩
abbrev cX3_argument : ByteArray := prog_5_method_6_code
def yX3_argument : MethodName := ⟨RX3, "argument", "(II)I"⟩
abbrev cX3_parse : ByteArray := prog_5_method_7_code
def yX3_parse : MethodName := ⟨RX3, "parse", "()Z"⟩
abbrev cX3_readCommand : ByteArray := prog_5_method_8_code
def yX3_readCommand : MethodName := ⟨RX3, "readCommand", "(I)Z"⟩
abbrev cX3_formOf : ByteArray := prog_5_method_9_code
def yX3_formOf : MethodName := ⟨RX3, "formOf", "(I)Ljava/lang/String;"⟩
abbrev cX3_readForm : ByteArray := prog_5_method_10_code
def yX3_readForm : MethodName := ⟨RX3, "readForm", "(Ljava/lang/String;I)Z"⟩
abbrev cX3_readSign : ByteArray := prog_5_method_11_code
def yX3_readSign : MethodName := ⟨RX3, "readSign", "(C)Z"⟩
abbrev cX3_seesDigit : ByteArray := prog_5_method_12_code
def yX3_seesDigit : MethodName := ⟨RX3, "seesDigit", "()Z"⟩
abbrev cX3_readNumber : ByteArray := prog_5_method_13_code
def yX3_readNumber : MethodName := ⟨RX3, "readNumber", "(I)I"⟩
def RX4 : String := "CricketCooperative$State"
def TX4 : u_T := fun k => match k with
  | 0 => ("CricketCooperative$State", "shares", "[I", true)
  | 1 => ("CricketCooperative$State", "period", "[I", true)
  | 2 => ("CricketCooperative$State", "phase", "[I", true)
  | 3 => ("CricketCooperative$State", "tone", "[I", true)
  | 4 => ("CricketCooperative$State", "spring", "[I", true)
  | 5 => ("CricketCooperative$State", "purse", "[I", true)
  | 6 => ("CricketCooperative$State", "dissents", "[I", true)
  | 7 => ("CricketCooperative$State", "spoilt", "[I", true)
  | 8 => ("CricketCooperative$State", "memberCount", "I", false)
  | 9 => ("CricketCooperative$State", "spoiltCount", "I", false)
  | 10 => ("CricketCooperative$State", "beat", "I", false)
  | 11 => ("CricketCooperative$State", "surplus", "I", false)
  | 12 => ("CricketCooperative$State", "houseTone", "I", false)
  | 13 => ("CricketCooperative$State", "quarters", "I", false)
  | 14 => ("CricketCooperative$State", "earned", "I", false)
  | _ => ("CricketCooperative$State", "chirps", "I", false)
def tyX4 : Nat → FieldType := fun k => match k with
  | 0 => .array .int
  | 1 => .array .int
  | 2 => .array .int
  | 3 => .array .int
  | 4 => .array .int
  | 5 => .array .int
  | 6 => .array .int
  | 7 => .array .int
  | 8 => .int
  | 9 => .int
  | 10 => .int
  | 11 => .int
  | 12 => .int
  | 13 => .int
  | 14 => .int
  | _ => .int
abbrev wsX40 : List Cond := u_ws RX4 TX4 16
theorem nmX4 : ∀ a, a < 16 → ∀ b, b < 16 → a ≠ b → (TX4 a).2.1 ≠ (TX4 b).2.1 := by decide +kernel
theorem tyX4_ok : ∀ k, k < 16 → parseFieldDescriptor (TX4 k).2.2.1 = some (tyX4 k) := by decide +kernel
abbrev cX4_init : ByteArray := prog_6_method_1_code
def yX4_init : MethodName := ⟨RX4, "<init>", "()V"⟩
abbrev cX4_copyFrom : ByteArray := prog_6_method_2_code
def yX4_copyFrom : MethodName := ⟨RX4, "copyFrom", "(LCricketCooperative$State;)V"⟩
abbrev cX4_hasMember : ByteArray := prog_6_method_3_code
def yX4_hasMember : MethodName := ⟨RX4, "hasMember", "(I)Z"⟩
abbrev cX4_faultOfJoining : ByteArray := prog_6_method_4_code
def yX4_faultOfJoining : MethodName := ⟨RX4, "faultOfJoining", "(IIII)I"⟩
abbrev cX4_join : ByteArray := prog_6_method_5_code
def yX4_join : MethodName := ⟨RX4, "join", "(IIII)I"⟩
abbrev cX4_faultOfWinding : ByteArray := prog_6_method_6_code
def yX4_faultOfWinding : MethodName := ⟨RX4, "faultOfWinding", "(II)I"⟩
abbrev cX4_windUp : ByteArray := prog_6_method_7_code
def yX4_windUp : MethodName := ⟨RX4, "windUp", "(II)I"⟩
abbrev cX4_faultOfTuning : ByteArray := prog_6_method_8_code
def yX4_faultOfTuning : MethodName := ⟨RX4, "faultOfTuning", "(II)I"⟩
abbrev cX4_retune : ByteArray := prog_6_method_9_code
def yX4_retune : MethodName := ⟨RX4, "retune", "(II)I"⟩
abbrev cX4_faultOfBuying : ByteArray := prog_6_method_10_code
def yX4_faultOfBuying : MethodName := ⟨RX4, "faultOfBuying", "(II)I"⟩
abbrev cX4_buy : ByteArray := prog_6_method_11_code
def yX4_buy : MethodName := ⟨RX4, "buy", "(II)I"⟩
abbrev cX4_faultOfPassing : ByteArray := prog_6_method_12_code
def yX4_faultOfPassing : MethodName := ⟨RX4, "faultOfPassing", "(I)I"⟩
abbrev cX4_letPass : ByteArray := prog_6_method_13_code
def yX4_letPass : MethodName := ⟨RX4, "letPass", "(I)I"⟩
abbrev cX4_passOne : ByteArray := prog_6_method_14_code
def yX4_passOne : MethodName := ⟨RX4, "passOne", "()V"⟩
abbrev cX4_hasClash : ByteArray := prog_6_method_15_code
def yX4_hasClash : MethodName := ⟨RX4, "hasClash", "(I)Z"⟩
abbrev cX4_turned : ByteArray := prog_6_method_16_code
def yX4_turned : MethodName := ⟨RX4, "turned", "(II)I"⟩
abbrev cX4_keepSpoiltBeat : ByteArray := prog_6_method_17_code
def yX4_keepSpoiltBeat : MethodName := ⟨RX4, "keepSpoiltBeat", "()V"⟩
abbrev cX4_isDue : ByteArray := prog_6_method_18_code
def yX4_isDue : MethodName := ⟨RX4, "isDue", "(II)Z"⟩
abbrev cX4_isChorus : ByteArray := prog_6_method_19_code
def yX4_isChorus : MethodName := ⟨RX4, "isChorus", "(I)Z"⟩
abbrev cX4_dueByLooking : ByteArray := prog_6_method_20_code
def yX4_dueByLooking : MethodName := ⟨RX4, "dueByLooking", "(I)J"⟩
abbrev cX4_dueByPattern : ByteArray := prog_6_method_21_code
def yX4_dueByPattern : MethodName := ⟨RX4, "dueByPattern", "(I)J"⟩
abbrev cX4_faultOfQuarter : ByteArray := prog_6_method_22_code
def yX4_faultOfQuarter : MethodName := ⟨RX4, "faultOfQuarter", "()I"⟩
abbrev cX4_faultOfMotion : ByteArray := prog_6_method_23_code
def yX4_faultOfMotion : MethodName := ⟨RX4, "faultOfMotion", "(II)I"⟩
abbrev cX4_decide : ByteArray := prog_6_method_24_code
def yX4_decide : MethodName := ⟨RX4, "decide", "(II)Z"⟩
abbrev cX4_sharesFor : ByteArray := prog_6_method_25_code
def yX4_sharesFor : MethodName := ⟨RX4, "sharesFor", "(II)I"⟩
abbrev cX4_isInFavour : ByteArray := prog_6_method_26_code
def yX4_isInFavour : MethodName := ⟨RX4, "isInFavour", "(III)Z"⟩
abbrev cX4_isTone : ByteArray := prog_6_method_27_code
def yX4_isTone : MethodName := ⟨RX4, "isTone", "(I)Z"⟩
abbrev cX4_neededShares : ByteArray := prog_6_method_28_code
def yX4_neededShares : MethodName := ⟨RX4, "neededShares", "()I"⟩
abbrev cX4_allShares : ByteArray := prog_6_method_29_code
def yX4_allShares : MethodName := ⟨RX4, "allShares", "()I"⟩
abbrev cX4_coinsInPurses : ByteArray := prog_6_method_30_code
def yX4_coinsInPurses : MethodName := ⟨RX4, "coinsInPurses", "()I"⟩
abbrev cX4_membersAhead : ByteArray := prog_6_method_31_code
def yX4_membersAhead : MethodName := ⟨RX4, "membersAhead", "(I)I"⟩
abbrev cX4_isAhead : ByteArray := prog_6_method_32_code
def yX4_isAhead : MethodName := ⟨RX4, "isAhead", "(II)Z"⟩
def RX5 : String := "CricketCooperative"
def TX5 : u_T := fun k => match k with
  | 0 => ("CricketCooperative", "state", "LCricketCooperative$State;", true)
  | 1 => ("CricketCooperative", "saved", "LCricketCooperative$State;", true)
  | 2 => ("CricketCooperative", "spare", "LCricketCooperative$State;", true)
  | 3 => ("CricketCooperative", "history", "LCricketCooperative$History;", true)
  | 4 => ("CricketCooperative", "dividends", "LCricketCooperative$Dividends;", true)
  | 5 => ("CricketCooperative", "groups", "LCricketCooperative$Groups;", true)
  | 6 => ("CricketCooperative", "program", "LCricketCooperative$Program;", true)
  | 7 => ("CricketCooperative", "line", "Ljava/lang/StringBuilder;", true)
  | 8 => ("CricketCooperative", "hasSaved", "Z", false)
  | 9 => ("CricketCooperative", "storedPosition", "I", false)
  | _ => ("CricketCooperative", "storedCommand", "I", false)
def tyX5 : Nat → FieldType := fun k => match k with
  | 0 => .object "CricketCooperative$State"
  | 1 => .object "CricketCooperative$State"
  | 2 => .object "CricketCooperative$State"
  | 3 => .object "CricketCooperative$History"
  | 4 => .object "CricketCooperative$Dividends"
  | 5 => .object "CricketCooperative$Groups"
  | 6 => .object "CricketCooperative$Program"
  | 7 => .object "java/lang/StringBuilder"
  | 8 => .boolean
  | 9 => .int
  | _ => .int
abbrev wsX50 : List Cond := u_ws RX5 TX5 11
theorem nmX5 : ∀ a, a < 11 → ∀ b, b < 11 → a ≠ b → (TX5 a).2.1 ≠ (TX5 b).2.1 := by decide +kernel
theorem tyX5_ok : ∀ k, k < 11 → parseFieldDescriptor (TX5 k).2.2.1 = some (tyX5 k) := by decide +kernel
abbrev cX5_init : ByteArray := prog_1_method_1_code
def yX5_init : MethodName := ⟨RX5, "<init>", "()V"⟩
abbrev cX5_addMember : ByteArray := prog_1_method_2_code
def yX5_addMember : MethodName := ⟨RX5, "addMember", "(IIII)I"⟩
abbrev cX5_wind : ByteArray := prog_1_method_3_code
def yX5_wind : MethodName := ⟨RX5, "wind", "(II)I"⟩
abbrev cX5_tune : ByteArray := prog_1_method_4_code
def yX5_tune : MethodName := ⟨RX5, "tune", "(II)I"⟩
abbrev cX5_buyShares : ByteArray := prog_1_method_5_code
def yX5_buyShares : MethodName := ⟨RX5, "buyShares", "(II)I"⟩
abbrev cX5_passBeats : ByteArray := prog_1_method_6_code
def yX5_passBeats : MethodName := ⟨RX5, "passBeats", "(I)I"⟩
abbrev cX5_endQuarter : ByteArray := prog_1_method_7_code
def yX5_endQuarter : MethodName := ⟨RX5, "endQuarter", "()I"⟩
abbrev cX5_vote : ByteArray := prog_1_method_8_code
def yX5_vote : MethodName := ⟨RX5, "vote", "(II)Z"⟩
abbrev cX5_memberCount : ByteArray := prog_1_method_9_code
def yX5_memberCount : MethodName := ⟨RX5, "memberCount", "()I"⟩
abbrev cX5_shares : ByteArray := prog_1_method_10_code
def yX5_shares : MethodName := ⟨RX5, "shares", "(I)I"⟩
abbrev cX5_spring : ByteArray := prog_1_method_11_code
def yX5_spring : MethodName := ⟨RX5, "spring", "(I)I"⟩
abbrev cX5_tone : ByteArray := prog_1_method_12_code
def yX5_tone : MethodName := ⟨RX5, "tone", "(I)I"⟩
abbrev cX5_purse : ByteArray := prog_1_method_13_code
def yX5_purse : MethodName := ⟨RX5, "purse", "(I)I"⟩
abbrev cX5_dissents : ByteArray := prog_1_method_14_code
def yX5_dissents : MethodName := ⟨RX5, "dissents", "(I)I"⟩
abbrev cX5_interval : ByteArray := prog_1_method_15_code
def yX5_interval : MethodName := ⟨RX5, "interval", "(II)I"⟩
abbrev cX5_memberAtRank : ByteArray := prog_1_method_16_code
def yX5_memberAtRank : MethodName := ⟨RX5, "memberAtRank", "(I)I"⟩
abbrev cX5_dueBeats : ByteArray := prog_1_method_17_code
def yX5_dueBeats : MethodName := ⟨RX5, "dueBeats", "(I)J"⟩
abbrev cX5_dueBeatsByDoubling : ByteArray := prog_1_method_18_code
def yX5_dueBeatsByDoubling : MethodName := ⟨RX5, "dueBeatsByDoubling", "(I)J"⟩
abbrev cX5_commonBeats : ByteArray := prog_1_method_19_code
def yX5_commonBeats : MethodName := ⟨RX5, "commonBeats", "(II)I"⟩
abbrev cX5_beatsUntilChorus : ByteArray := prog_1_method_20_code
def yX5_beatsUntilChorus : MethodName := ⟨RX5, "beatsUntilChorus", "()I"⟩
abbrev cX5_earningsIn : ByteArray := prog_1_method_21_code
def yX5_earningsIn : MethodName := ⟨RX5, "earningsIn", "(I)I"⟩
abbrev cX5_dividend : ByteArray := prog_1_method_22_code
def yX5_dividend : MethodName := ⟨RX5, "dividend", "(I)I"⟩
abbrev cX5_dividendByCounting : ByteArray := prog_1_method_23_code
def yX5_dividendByCounting : MethodName := ⟨RX5, "dividendByCounting", "(I)I"⟩
abbrev cX5_sharesInFavour : ByteArray := prog_1_method_24_code
def yX5_sharesInFavour : MethodName := ⟨RX5, "sharesInFavour", "(II)I"⟩
abbrev cX5_carriedTone : ByteArray := prog_1_method_25_code
def yX5_carriedTone : MethodName := ⟨RX5, "carriedTone", "(I)I"⟩
abbrev cX5_quota : ByteArray := prog_1_method_26_code
def yX5_quota : MethodName := ⟨RX5, "quota", "()I"⟩
abbrev cX5_winningGroups : ByteArray := prog_1_method_27_code
def yX5_winningGroups : MethodName := ⟨RX5, "winningGroups", "()I"⟩
abbrev cX5_winningGroupsByTable : ByteArray := prog_1_method_28_code
def yX5_winningGroupsByTable : MethodName := ⟨RX5, "winningGroupsByTable", "()I"⟩
abbrev cX5_power : ByteArray := prog_1_method_29_code
def yX5_power : MethodName := ⟨RX5, "power", "(I)I"⟩
abbrev cX5_powerByTable : ByteArray := prog_1_method_30_code
def yX5_powerByTable : MethodName := ⟨RX5, "powerByTable", "(I)I"⟩
abbrev cX5_smallestMajority : ByteArray := prog_1_method_31_code
def yX5_smallestMajority : MethodName := ⟨RX5, "smallestMajority", "()I"⟩
abbrev cX5_beat : ByteArray := prog_1_method_32_code
def yX5_beat : MethodName := ⟨RX5, "beat", "()I"⟩
abbrev cX5_surplus : ByteArray := prog_1_method_33_code
def yX5_surplus : MethodName := ⟨RX5, "surplus", "()I"⟩
abbrev cX5_houseTone : ByteArray := prog_1_method_34_code
def yX5_houseTone : MethodName := ⟨RX5, "houseTone", "()I"⟩
abbrev cX5_quarters : ByteArray := prog_1_method_35_code
def yX5_quarters : MethodName := ⟨RX5, "quarters", "()I"⟩
abbrev cX5_coinTotal : ByteArray := prog_1_method_36_code
def yX5_coinTotal : MethodName := ⟨RX5, "coinTotal", "()I"⟩
abbrev cX5_coinsByAccounts : ByteArray := prog_1_method_37_code
def yX5_coinsByAccounts : MethodName := ⟨RX5, "coinsByAccounts", "()I"⟩
abbrev cX5_chirps : ByteArray := prog_1_method_38_code
def yX5_chirps : MethodName := ⟨RX5, "chirps", "()I"⟩
abbrev cX5_spoiltBeat : ByteArray := prog_1_method_39_code
def yX5_spoiltBeat : MethodName := ⟨RX5, "spoiltBeat", "(I)I"⟩
abbrev cX5_meanPurse : ByteArray := prog_1_method_40_code
def yX5_meanPurse : MethodName := ⟨RX5, "meanPurse", "()D"⟩
abbrev cX5_powerShare : ByteArray := prog_1_method_41_code
def yX5_powerShare : MethodName := ⟨RX5, "powerShare", "(I)F"⟩
abbrev cX5_isConsistent : ByteArray := prog_1_method_42_code
def yX5_isConsistent : MethodName := ⟨RX5, "isConsistent", "()Z"⟩
abbrev cX5_append : ByteArray := prog_1_method_43_code
def yX5_append : MethodName := ⟨RX5, "append", "(C)I"⟩
abbrev cX5_run : ByteArray := prog_1_method_44_code
def yX5_run : MethodName := ⟨RX5, "run", "()I"⟩
abbrev cX5_writeMember : ByteArray := prog_1_method_47_code
def yX5_writeMember : MethodName := ⟨RX5, "writeMember", "(I)I"⟩
abbrev cX5_undo : ByteArray := prog_1_method_49_code
def yX5_undo : MethodName := ⟨RX5, "undo", "()I"⟩
abbrev cX5_save : ByteArray := prog_1_method_50_code
def yX5_save : MethodName := ⟨RX5, "save", "()V"⟩
abbrev cX5_restore : ByteArray := prog_1_method_51_code
def yX5_restore : MethodName := ⟨RX5, "restore", "()V"⟩
abbrev cX5_needMember : ByteArray := prog_1_method_52_code
def yX5_needMember : MethodName := ⟨RX5, "needMember", "(I)V"⟩
abbrev cX5_refuse : ByteArray := prog_1_method_53_code
def yX5_refuse : MethodName := ⟨RX5, "refuse", "(I)V"⟩
abbrev cX5_bothWaysAgree : ByteArray := prog_1_method_54_code
def yX5_bothWaysAgree : MethodName := ⟨RX5, "bothWaysAgree", "(I)Z"⟩
abbrev cX5_firstFailingCommand : ByteArray := prog_1_method_55_code
def yX5_firstFailingCommand : MethodName := ⟨RX5, "firstFailingCommand", "()I"⟩
abbrev cX5_faultOfCommand : ByteArray := prog_1_method_56_code
def yX5_faultOfCommand : MethodName := ⟨RX5, "faultOfCommand", "(I)I"⟩
abbrev cX5_carryOut : ByteArray := prog_1_method_57_code
def yX5_carryOut : MethodName := ⟨RX5, "carryOut", "(I)V"⟩
abbrev cX5_stepsBetween : ByteArray := prog_1_method_58_code
def yX5_stepsBetween : MethodName := ⟨RX5, "stepsBetween", "(II)I"⟩
def RX6 : String := "CricketCooperativeModel"
def TX6 : u_T := fun k => match k with
  | _ => ("", "", "", false)
def tyX6 : Nat → FieldType := fun k => match k with
  | _ => .int
abbrev wsX60 : List Cond := u_ws RX6 TX6 0
theorem nmX6 : ∀ a, a < 0 → ∀ b, b < 0 → a ≠ b → (TX6 a).2.1 ≠ (TX6 b).2.1 := by decide +kernel
theorem tyX6_ok : ∀ k, k < 0 → parseFieldDescriptor (TX6 k).2.2.1 = some (tyX6 k) := by decide +kernel
def RJx145de : String := "java/io/Serializable"
def TJx145de : u_T := fun k => match k with
  | _ => ("", "", "", false)
def tyJx145de : Nat → FieldType := fun k => match k with
  | _ => .int
abbrev wsJx145de0 : List Cond := u_ws RJx145de TJx145de 0
theorem nmJx145de : ∀ a, a < 0 → ∀ b, b < 0 → a ≠ b → (TJx145de a).2.1 ≠ (TJx145de b).2.1 := by decide +kernel
theorem tyJx145de_ok : ∀ k, k < 0 → parseFieldDescriptor (TJx145de k).2.2.1 = some (tyJx145de k) := by decide +kernel
def RJ5 : String := "java/lang/AbstractStringBuilder"
def TJ5 : u_T := fun k => match k with
  | _ => ("", "", "", false)
def tyJ5 : Nat → FieldType := fun k => match k with
  | _ => .int
abbrev wsJ50 : List Cond := u_ws RJ5 TJ5 0
theorem nmJ5 : ∀ a, a < 0 → ∀ b, b < 0 → a ≠ b → (TJ5 a).2.1 ≠ (TJ5 b).2.1 := by decide +kernel
theorem tyJ5_ok : ∀ k, k < 0 → parseFieldDescriptor (TJ5 k).2.2.1 = some (tyJ5 k) := by decide +kernel
abbrev cJ5_init_d00df : ByteArray := prog_10_method_2_code
def yJ5_init_d00df : MethodName := ⟨RJ5, "<init>", "(I)V"⟩
abbrev cJ5_length_8abf5 : ByteArray := prog_10_method_6_code
def yJ5_length_8abf5 : MethodName := ⟨RJ5, "length", "()I"⟩
abbrev cJ5_ensureCapacityInternal_d00df : ByteArray := prog_10_method_9_code
def yJ5_ensureCapacityInternal_d00df : MethodName := ⟨RJ5, "ensureCapacityInternal", "(I)V"⟩
abbrev cJ5_newCapacity_0f7a4 : ByteArray := prog_10_method_10_code
def yJ5_newCapacity_0f7a4 : MethodName := ⟨RJ5, "newCapacity", "(I)I"⟩
abbrev cJ5_inflate_da8c8 : ByteArray := prog_10_method_11_code
def yJ5_inflate_da8c8 : MethodName := ⟨RJ5, "inflate", "()V"⟩
abbrev cJ5_setLength_d00df : ByteArray := prog_10_method_13_code
def yJ5_setLength_d00df : MethodName := ⟨RJ5, "setLength", "(I)V"⟩
abbrev cJ5_append_cf1ce : ByteArray := prog_10_method_22_code
def yJ5_append_cf1ce : MethodName := ⟨RJ5, "append", "(Ljava/lang/String;)Ljava/lang/AbstractStringBuilder;"⟩
abbrev cJ5_appendNull_278bc : ByteArray := prog_10_method_26_code
def yJ5_appendNull_278bc : MethodName := ⟨RJ5, "appendNull", "()Ljava/lang/AbstractStringBuilder;"⟩
abbrev cJ5_append_3fe6f : ByteArray := prog_10_method_31_code
def yJ5_append_3fe6f : MethodName := ⟨RJ5, "append", "(C)Ljava/lang/AbstractStringBuilder;"⟩
abbrev cJ5_append_c97b9 : ByteArray := prog_10_method_32_code
def yJ5_append_c97b9 : MethodName := ⟨RJ5, "append", "(I)Ljava/lang/AbstractStringBuilder;"⟩
abbrev cJ5_getValue_6d5f1 : ByteArray := prog_10_method_64_code
def yJ5_getValue_6d5f1 : MethodName := ⟨RJ5, "getValue", "()[B"⟩
abbrev cJ5_isLatin1_aae02 : ByteArray := prog_10_method_68_code
def yJ5_isLatin1_aae02 : MethodName := ⟨RJ5, "isLatin1", "()Z"⟩
abbrev cJ5_inflateIfNeededFor_a7421 : ByteArray := prog_10_method_71_code
def yJ5_inflateIfNeededFor_a7421 : MethodName := ⟨RJ5, "inflateIfNeededFor", "(Ljava/lang/String;)V"⟩
abbrev cJ5_putStringAt_47b60 : ByteArray := prog_10_method_73_code
def yJ5_putStringAt_47b60 : MethodName := ⟨RJ5, "putStringAt", "(ILjava/lang/String;)V"⟩
def RJx2cfe8 : String := "java/lang/Appendable"
def TJx2cfe8 : u_T := fun k => match k with
  | _ => ("", "", "", false)
def tyJx2cfe8 : Nat → FieldType := fun k => match k with
  | _ => .int
abbrev wsJx2cfe80 : List Cond := u_ws RJx2cfe8 TJx2cfe8 0
theorem nmJx2cfe8 : ∀ a, a < 0 → ∀ b, b < 0 → a ≠ b → (TJx2cfe8 a).2.1 ≠ (TJx2cfe8 b).2.1 := by decide +kernel
theorem tyJx2cfe8_ok : ∀ k, k < 0 → parseFieldDescriptor (TJx2cfe8 k).2.2.1 = some (tyJx2cfe8 k) := by decide +kernel
def RJx00060 : String := "java/lang/ArrayIndexOutOfBoundsException"
def TJx00060 : u_T := fun k => match k with
  | 0 => ("java/lang/Throwable", "backtrace", "Ljava/lang/Object;", false)
  | 1 => ("java/lang/Throwable", "detailMessage", "Ljava/lang/String;", false)
  | 2 => ("java/lang/Throwable", "cause", "Ljava/lang/Throwable;", false)
  | 3 => ("java/lang/Throwable", "stackTrace", "[Ljava/lang/StackTraceElement;", false)
  | 4 => ("java/lang/Throwable", "depth", "I", false)
  | _ => ("java/lang/Throwable", "suppressedExceptions", "Ljava/util/List;", false)
def tyJx00060 : Nat → FieldType := fun k => match k with
  | 0 => .object "java/lang/Object"
  | 1 => .object "java/lang/String"
  | 2 => .object "java/lang/Throwable"
  | 3 => .array (.object "java/lang/StackTraceElement")
  | 4 => .int
  | _ => .object "java/util/List"
abbrev wsJx000600 : List Cond := u_ws RJx00060 TJx00060 6
theorem nmJx00060 : ∀ a, a < 6 → ∀ b, b < 6 → a ≠ b → (TJx00060 a).2.1 ≠ (TJx00060 b).2.1 := by decide +kernel
theorem tyJx00060_ok : ∀ k, k < 6 → parseFieldDescriptor (TJx00060 k).2.2.1 = some (tyJx00060 k) := by decide +kernel
abbrev cJx00060_init_a7421 : ByteArray := prog_13_method_2_code
def yJx00060_init_a7421 : MethodName := ⟨RJx00060, "<init>", "(Ljava/lang/String;)V"⟩
abbrev cJx00060_init_d00df : ByteArray := prog_13_method_3_code
def yJx00060_init_d00df : MethodName := ⟨RJx00060, "<init>", "(I)V"⟩
def RJx9f9b0 : String := "java/lang/CharSequence"
def TJx9f9b0 : u_T := fun k => match k with
  | _ => ("", "", "", false)
def tyJx9f9b0 : Nat → FieldType := fun k => match k with
  | _ => .int
abbrev wsJx9f9b00 : List Cond := u_ws RJx9f9b0 TJx9f9b0 0
theorem nmJx9f9b0 : ∀ a, a < 0 → ∀ b, b < 0 → a ≠ b → (TJx9f9b0 a).2.1 ≠ (TJx9f9b0 b).2.1 := by decide +kernel
theorem tyJx9f9b0_ok : ∀ k, k < 0 → parseFieldDescriptor (TJx9f9b0 k).2.2.1 = some (tyJx9f9b0 k) := by decide +kernel
def RJx8e188 : String := "java/lang/Cloneable"
def TJx8e188 : u_T := fun k => match k with
  | _ => ("", "", "", false)
def tyJx8e188 : Nat → FieldType := fun k => match k with
  | _ => .int
abbrev wsJx8e1880 : List Cond := u_ws RJx8e188 TJx8e188 0
theorem nmJx8e188 : ∀ a, a < 0 → ∀ b, b < 0 → a ≠ b → (TJx8e188 a).2.1 ≠ (TJx8e188 b).2.1 := by decide +kernel
theorem tyJx8e188_ok : ∀ k, k < 0 → parseFieldDescriptor (TJx8e188 k).2.2.1 = some (tyJx8e188 k) := by decide +kernel
def RJxb160c : String := "java/lang/Comparable"
def TJxb160c : u_T := fun k => match k with
  | _ => ("", "", "", false)
def tyJxb160c : Nat → FieldType := fun k => match k with
  | _ => .int
abbrev wsJxb160c0 : List Cond := u_ws RJxb160c TJxb160c 0
theorem nmJxb160c : ∀ a, a < 0 → ∀ b, b < 0 → a ≠ b → (TJxb160c a).2.1 ≠ (TJxb160c b).2.1 := by decide +kernel
theorem tyJxb160c_ok : ∀ k, k < 0 → parseFieldDescriptor (TJxb160c k).2.2.1 = some (tyJxb160c k) := by decide +kernel
def RJ6 : String := "java/lang/Integer"
def TJ6 : u_T := fun k => match k with
  | _ => ("", "", "", false)
def tyJ6 : Nat → FieldType := fun k => match k with
  | _ => .int
abbrev wsJ60 : List Cond := u_ws RJ6 TJ6 0
theorem nmJ6 : ∀ a, a < 0 → ∀ b, b < 0 → a ≠ b → (TJ6 a).2.1 ≠ (TJ6 b).2.1 := by decide +kernel
theorem tyJ6_ok : ∀ k, k < 0 → parseFieldDescriptor (TJ6 k).2.2.1 = some (tyJ6 k) := by decide +kernel
abbrev cJ6_getChars_ba4f3 : ByteArray := prog_21_method_12_code
def yJ6_getChars_ba4f3 : MethodName := ⟨RJ6, "getChars", "(II[B)I"⟩
abbrev cJ6_stringSize_0f7a4 : ByteArray := prog_21_method_13_code
def yJ6_stringSize_0f7a4 : MethodName := ⟨RJ6, "stringSize", "(I)I"⟩
abbrev cJ6_bitCount_0f7a4 : ByteArray := prog_21_method_49_code
def yJ6_bitCount_0f7a4 : MethodName := ⟨RJ6, "bitCount", "(I)I"⟩
def RJ13 : String := "java/lang/Long"
def TJ13 : u_T := fun k => match k with
  | _ => ("", "", "", false)
def tyJ13 : Nat → FieldType := fun k => match k with
  | _ => .int
abbrev wsJ130 : List Cond := u_ws RJ13 TJ13 0
theorem nmJ13 : ∀ a, a < 0 → ∀ b, b < 0 → a ≠ b → (TJ13 a).2.1 ≠ (TJ13 b).2.1 := by decide +kernel
theorem tyJ13_ok : ∀ k, k < 0 → parseFieldDescriptor (TJ13 k).2.2.1 = some (tyJ13 k) := by decide +kernel
abbrev cJ13_bitCount_95d88 : ByteArray := prog_22_method_50_code
def yJ13_bitCount_95d88 : MethodName := ⟨RJ13, "bitCount", "(J)I"⟩
def RJ9 : String := "java/lang/Math"
def TJ9 : u_T := fun k => match k with
  | _ => ("", "", "", false)
def tyJ9 : Nat → FieldType := fun k => match k with
  | _ => .int
abbrev wsJ90 : List Cond := u_ws RJ9 TJ9 0
theorem nmJ9 : ∀ a, a < 0 → ∀ b, b < 0 → a ≠ b → (TJ9 a).2.1 ≠ (TJ9 b).2.1 := by decide +kernel
theorem tyJ9_ok : ∀ k, k < 0 → parseFieldDescriptor (TJ9 k).2.2.1 = some (tyJ9 k) := by decide +kernel
abbrev cJ9_floorMod_7cf53 : ByteArray := prog_23_method_50_code
def yJ9_floorMod_7cf53 : MethodName := ⟨RJ9, "floorMod", "(II)I"⟩
abbrev cJ9_max_7cf53 : ByteArray := prog_23_method_65_code
def yJ9_max_7cf53 : MethodName := ⟨RJ9, "max", "(II)I"⟩
abbrev cJ9_min_7cf53 : ByteArray := prog_23_method_69_code
def yJ9_min_7cf53 : MethodName := ⟨RJ9, "min", "(II)I"⟩
def RJxd2413 : String := "java/lang/Number"
def TJxd2413 : u_T := fun k => match k with
  | _ => ("", "", "", false)
def tyJxd2413 : Nat → FieldType := fun k => match k with
  | _ => .int
abbrev wsJxd24130 : List Cond := u_ws RJxd2413 TJxd2413 0
theorem nmJxd2413 : ∀ a, a < 0 → ∀ b, b < 0 → a ≠ b → (TJxd2413 a).2.1 ≠ (TJxd2413 b).2.1 := by decide +kernel
theorem tyJxd2413_ok : ∀ k, k < 0 → parseFieldDescriptor (TJxd2413 k).2.2.1 = some (tyJxd2413 k) := by decide +kernel
def RJ0 : String := "java/lang/String"
def TJ0 : u_T := fun k => match k with
  | 0 => ("java/lang/String", "value", "[B", true)
  | 1 => ("java/lang/String", "coder", "B", true)
  | 2 => ("java/lang/String", "hash", "I", false)
  | _ => ("java/lang/String", "hashIsZero", "Z", false)
def tyJ0 : Nat → FieldType := fun k => match k with
  | 0 => .array .byte
  | 1 => .byte
  | 2 => .int
  | _ => .boolean
abbrev wsJ00 : List Cond := u_ws RJ0 TJ0 4
theorem nmJ0 : ∀ a, a < 4 → ∀ b, b < 4 → a ≠ b → (TJ0 a).2.1 ≠ (TJ0 b).2.1 := by decide +kernel
theorem tyJ0_ok : ∀ k, k < 4 → parseFieldDescriptor (TJ0 k).2.2.1 = some (tyJ0 k) := by decide +kernel
abbrev cJ0_init_81219 : ByteArray := prog_26_method_53_code
def yJ0_init_81219 : MethodName := ⟨RJ0, "<init>", "(Ljava/lang/StringBuilder;)V"⟩
abbrev cJ0_length_8abf5 : ByteArray := prog_26_method_54_code
def yJ0_length_8abf5 : MethodName := ⟨RJ0, "length", "()I"⟩
abbrev cJ0_charAt_5068e : ByteArray := prog_26_method_56_code
def yJ0_charAt_5068e : MethodName := ⟨RJ0, "charAt", "(I)C"⟩
abbrev cJ0_getBytes_840e7 : ByteArray := prog_26_method_147_code
def yJ0_getBytes_840e7 : MethodName := ⟨RJ0, "getBytes", "([BIB)V"⟩
abbrev cJ0_init_db425 : ByteArray := prog_26_method_150_code
def yJ0_init_db425 : MethodName := ⟨RJ0, "<init>", "(Ljava/lang/AbstractStringBuilder;Ljava/lang/Void;)V"⟩
abbrev cJ0_coder_7d493 : ByteArray := prog_26_method_152_code
def yJ0_coder_7d493 : MethodName := ⟨RJ0, "coder", "()B"⟩
abbrev cJ0_isLatin1_aae02 : ByteArray := prog_26_method_154_code
def yJ0_isLatin1_aae02 : MethodName := ⟨RJ0, "isLatin1", "()Z"⟩
abbrev cJ0_checkIndex_df160 : ByteArray := prog_26_method_155_code
def yJ0_checkIndex_df160 : MethodName := ⟨RJ0, "checkIndex", "(II)V"⟩
abbrev cJ0_checkBoundsOffCount_cabcc : ByteArray := prog_26_method_157_code
def yJ0_checkBoundsOffCount_cabcc : MethodName := ⟨RJ0, "checkBoundsOffCount", "(III)I"⟩
abbrev cJ0_checkBoundsBeginEnd_23922 : ByteArray := prog_26_method_158_code
def yJ0_checkBoundsBeginEnd_23922 : MethodName := ⟨RJ0, "checkBoundsBeginEnd", "(III)V"⟩
def RJ4 : String := "java/lang/StringBuilder"
def TJ4 : u_T := fun k => match k with
  | 0 => ("java/lang/AbstractStringBuilder", "value", "[B", false)
  | 1 => ("java/lang/AbstractStringBuilder", "coder", "B", false)
  | 2 => ("java/lang/AbstractStringBuilder", "maybeLatin1", "Z", false)
  | _ => ("java/lang/AbstractStringBuilder", "count", "I", false)
def tyJ4 : Nat → FieldType := fun k => match k with
  | 0 => .array .byte
  | 1 => .byte
  | 2 => .boolean
  | _ => .int
abbrev wsJ40 : List Cond := u_ws RJ4 TJ4 4
theorem nmJ4 : ∀ a, a < 4 → ∀ b, b < 4 → a ≠ b → (TJ4 a).2.1 ≠ (TJ4 b).2.1 := by decide +kernel
theorem tyJ4_ok : ∀ k, k < 4 → parseFieldDescriptor (TJ4 k).2.2.1 = some (tyJ4 k) := by decide +kernel
abbrev cJ4_init_da8c8 : ByteArray := prog_27_method_1_code
def yJ4_init_da8c8 : MethodName := ⟨RJ4, "<init>", "()V"⟩
abbrev cJ4_append_15ec4 : ByteArray := prog_27_method_7_code
def yJ4_append_15ec4 : MethodName := ⟨RJ4, "append", "(Ljava/lang/String;)Ljava/lang/StringBuilder;"⟩
abbrev cJ4_append_cf468 : ByteArray := prog_27_method_14_code
def yJ4_append_cf468 : MethodName := ⟨RJ4, "append", "(C)Ljava/lang/StringBuilder;"⟩
abbrev cJ4_append_bf812 : ByteArray := prog_27_method_15_code
def yJ4_append_bf812 : MethodName := ⟨RJ4, "append", "(I)Ljava/lang/StringBuilder;"⟩
abbrev cJ4_toString_0e30d : ByteArray := prog_27_method_42_code
def yJ4_toString_0e30d : MethodName := ⟨RJ4, "toString", "()Ljava/lang/String;"⟩
abbrev cJ4_setLength_d00df : ByteArray := prog_27_method_89_code
def yJ4_setLength_d00df : MethodName := ⟨RJ4, "setLength", "(I)V"⟩
abbrev cJ4_length_8abf5 : ByteArray := prog_27_method_93_code
def yJ4_length_8abf5 : MethodName := ⟨RJ4, "length", "()I"⟩
def RJx7c733 : String := "java/lang/StringIndexOutOfBoundsException"
def TJx7c733 : u_T := fun k => match k with
  | 0 => ("java/lang/Throwable", "backtrace", "Ljava/lang/Object;", false)
  | 1 => ("java/lang/Throwable", "detailMessage", "Ljava/lang/String;", false)
  | 2 => ("java/lang/Throwable", "cause", "Ljava/lang/Throwable;", false)
  | 3 => ("java/lang/Throwable", "stackTrace", "[Ljava/lang/StackTraceElement;", false)
  | 4 => ("java/lang/Throwable", "depth", "I", false)
  | _ => ("java/lang/Throwable", "suppressedExceptions", "Ljava/util/List;", false)
def tyJx7c733 : Nat → FieldType := fun k => match k with
  | 0 => .object "java/lang/Object"
  | 1 => .object "java/lang/String"
  | 2 => .object "java/lang/Throwable"
  | 3 => .array (.object "java/lang/StackTraceElement")
  | 4 => .int
  | _ => .object "java/util/List"
abbrev wsJx7c7330 : List Cond := u_ws RJx7c733 TJx7c733 6
theorem nmJx7c733 : ∀ a, a < 6 → ∀ b, b < 6 → a ≠ b → (TJx7c733 a).2.1 ≠ (TJx7c733 b).2.1 := by decide +kernel
theorem tyJx7c733_ok : ∀ k, k < 6 → parseFieldDescriptor (TJx7c733 k).2.2.1 = some (tyJx7c733 k) := by decide +kernel
abbrev cJx7c733_init_d00df : ByteArray := prog_28_method_3_code
def yJx7c733_init_d00df : MethodName := ⟨RJx7c733, "<init>", "(I)V"⟩
def RJ1 : String := "java/lang/StringLatin1"
def TJ1 : u_T := fun k => match k with
  | _ => ("", "", "", false)
def tyJ1 : Nat → FieldType := fun k => match k with
  | _ => .int
abbrev wsJ10 : List Cond := u_ws RJ1 TJ1 0
theorem nmJ1 : ∀ a, a < 0 → ∀ b, b < 0 → a ≠ b → (TJ1 a).2.1 ≠ (TJ1 b).2.1 := by decide +kernel
theorem tyJ1_ok : ∀ k, k < 0 → parseFieldDescriptor (TJ1 k).2.2.1 = some (tyJ1 k) := by decide +kernel
abbrev cJ1_charAt_3b067 : ByteArray := prog_29_method_2_code
def yJ1_charAt_3b067 : MethodName := ⟨RJ1, "charAt", "([BI)C"⟩
abbrev cJ1_canEncode_fc78d : ByteArray := prog_29_method_3_code
def yJ1_canEncode_fc78d : MethodName := ⟨RJ1, "canEncode", "(C)Z"⟩
abbrev cJ1_fillNull_b72d1 : ByteArray := prog_29_method_48_code
def yJ1_fillNull_b72d1 : MethodName := ⟨RJ1, "fillNull", "([BII)V"⟩
abbrev cJ1_inflate_0e8fd : ByteArray := prog_29_method_50_code
def yJ1_inflate_0e8fd : MethodName := ⟨RJ1, "inflate", "([BI[BII)V"⟩
def RJ2 : String := "java/lang/StringUTF16"
def TJ2 : u_T := fun k => match k with
  | _ => ("", "", "", false)
def tyJ2 : Nat → FieldType := fun k => match k with
  | _ => .int
abbrev wsJ20 : List Cond := u_ws RJ2 TJ2 0
theorem nmJ2 : ∀ a, a < 0 → ∀ b, b < 0 → a ≠ b → (TJ2 a).2.1 ≠ (TJ2 b).2.1 := by decide +kernel
theorem tyJ2_ok : ∀ k, k < 0 → parseFieldDescriptor (TJ2 k).2.2.1 = some (tyJ2 k) := by decide +kernel
abbrev cJ2_newBytesFor_77867 : ByteArray := prog_30_method_2_code
def yJ2_newBytesFor_77867 : MethodName := ⟨RJ2, "newBytesFor", "(I)[B"⟩
abbrev cJ2_newBytesLength_0f7a4 : ByteArray := prog_30_method_3_code
def yJ2_newBytesLength_0f7a4 : MethodName := ⟨RJ2, "newBytesLength", "(I)I"⟩
abbrev cJ2_putChar_b72d1 : ByteArray := prog_30_method_4_code
def yJ2_putChar_b72d1 : MethodName := ⟨RJ2, "putChar", "([BII)V"⟩
abbrev cJ2_getChar_3b067 : ByteArray := prog_30_method_5_code
def yJ2_getChar_3b067 : MethodName := ⟨RJ2, "getChar", "([BI)C"⟩
abbrev cJ2_length_9d52b : ByteArray := prog_30_method_6_code
def yJ2_length_9d52b : MethodName := ⟨RJ2, "length", "([B)I"⟩
abbrev cJ2_coderFromArrayLen_85cad : ByteArray := prog_30_method_15_code
def yJ2_coderFromArrayLen_85cad : MethodName := ⟨RJ2, "coderFromArrayLen", "([BI)B"⟩
abbrev cJ2_compress_39247 : ByteArray := prog_30_method_17_code
def yJ2_compress_39247 : MethodName := ⟨RJ2, "compress", "([BII)[B"⟩
abbrev cJ2_compress_5af95 : ByteArray := prog_30_method_22_code
def yJ2_compress_5af95 : MethodName := ⟨RJ2, "compress", "([BI[BII)I"⟩
abbrev cJ2_fillNull_b72d1 : ByteArray := prog_30_method_70_code
def yJ2_fillNull_b72d1 : MethodName := ⟨RJ2, "fillNull", "([BII)V"⟩
abbrev cJ2_putCharSB_b72d1 : ByteArray := prog_30_method_71_code
def yJ2_putCharSB_b72d1 : MethodName := ⟨RJ2, "putCharSB", "([BII)V"⟩
abbrev cJ2_getChars_46870 : ByteArray := prog_30_method_77_code
def yJ2_getChars_46870 : MethodName := ⟨RJ2, "getChars", "(III[B)I"⟩
abbrev cJ2_putCharsAt_cd4e5 : ByteArray := prog_30_method_81_code
def yJ2_putCharsAt_cd4e5 : MethodName := ⟨RJ2, "putCharsAt", "([BICCCC)I"⟩
abbrev cJ2_charAt_3b067 : ByteArray := prog_30_method_83_code
def yJ2_charAt_3b067 : MethodName := ⟨RJ2, "charAt", "([BI)C"⟩
abbrev cJ2_inflate_0e8fd : ByteArray := prog_30_method_86_code
def yJ2_inflate_0e8fd : MethodName := ⟨RJ2, "inflate", "([BI[BII)V"⟩
abbrev cJ2_getChars_ba4f3 : ByteArray := prog_30_method_89_code
def yJ2_getChars_ba4f3 : MethodName := ⟨RJ2, "getChars", "(II[B)I"⟩
abbrev cJ2_checkIndex_2214a : ByteArray := prog_30_method_91_code
def yJ2_checkIndex_2214a : MethodName := ⟨RJ2, "checkIndex", "(I[B)V"⟩
abbrev cJ2_checkBoundsBeginEnd_d044e : ByteArray := prog_30_method_93_code
def yJ2_checkBoundsBeginEnd_d044e : MethodName := ⟨RJ2, "checkBoundsBeginEnd", "(II[B)V"⟩
abbrev cJ2_checkBoundsOffCount_d044e : ByteArray := prog_30_method_94_code
def yJ2_checkBoundsOffCount_d044e : MethodName := ⟨RJ2, "checkBoundsOffCount", "(II[B)V"⟩
def RJ10 : String := "java/lang/System"
def TJ10 : u_T := fun k => match k with
  | _ => ("", "", "", false)
def tyJ10 : Nat → FieldType := fun k => match k with
  | _ => .int
abbrev wsJ100 : List Cond := u_ws RJ10 TJ10 0
theorem nmJ10 : ∀ a, a < 0 → ∀ b, b < 0 → a ≠ b → (TJ10 a).2.1 ≠ (TJ10 b).2.1 := by decide +kernel
theorem tyJ10_ok : ∀ k, k < 0 → parseFieldDescriptor (TJ10 k).2.2.1 = some (tyJ10 k) := by decide +kernel
def RJxfd54e : String := "java/lang/constant/Constable"
def TJxfd54e : u_T := fun k => match k with
  | _ => ("", "", "", false)
def tyJxfd54e : Nat → FieldType := fun k => match k with
  | _ => .int
abbrev wsJxfd54e0 : List Cond := u_ws RJxfd54e TJxfd54e 0
theorem nmJxfd54e : ∀ a, a < 0 → ∀ b, b < 0 → a ≠ b → (TJxfd54e a).2.1 ≠ (TJxfd54e b).2.1 := by decide +kernel
theorem tyJxfd54e_ok : ∀ k, k < 0 → parseFieldDescriptor (TJxfd54e k).2.2.1 = some (tyJxfd54e k) := by decide +kernel
def RJx3cf43 : String := "java/lang/constant/ConstantDesc"
def TJx3cf43 : u_T := fun k => match k with
  | _ => ("", "", "", false)
def tyJx3cf43 : Nat → FieldType := fun k => match k with
  | _ => .int
abbrev wsJx3cf430 : List Cond := u_ws RJx3cf43 TJx3cf43 0
theorem nmJx3cf43 : ∀ a, a < 0 → ∀ b, b < 0 → a ≠ b → (TJx3cf43 a).2.1 ≠ (TJx3cf43 b).2.1 := by decide +kernel
theorem tyJx3cf43_ok : ∀ k, k < 0 → parseFieldDescriptor (TJx3cf43 k).2.2.1 = some (tyJx3cf43 k) := by decide +kernel
def RJ7 : String := "java/util/Arrays"
def TJ7 : u_T := fun k => match k with
  | _ => ("", "", "", false)
def tyJ7 : Nat → FieldType := fun k => match k with
  | _ => .int
abbrev wsJ70 : List Cond := u_ws RJ7 TJ7 0
theorem nmJ7 : ∀ a, a < 0 → ∀ b, b < 0 → a ≠ b → (TJ7 a).2.1 ≠ (TJ7 b).2.1 := by decide +kernel
theorem tyJ7_ok : ∀ k, k < 0 → parseFieldDescriptor (TJ7 k).2.2.1 = some (tyJ7 k) := by decide +kernel
abbrev cJ7_rangeCheck_23922 : ByteArray := prog_36_method_30_code
def yJ7_rangeCheck_23922 : MethodName := ⟨RJ7, "rangeCheck", "(III)V"⟩
abbrev cJ7_fill_eb02e : ByteArray := prog_36_method_110_code
def yJ7_fill_eb02e : MethodName := ⟨RJ7, "fill", "([BIIB)V"⟩
abbrev cJ7_copyOf_9075b : ByteArray := prog_36_method_121_code
def yJ7_copyOf_9075b : MethodName := ⟨RJ7, "copyOf", "([BI)[B"⟩
abbrev cJ7_checkLength_df160 : ByteArray := prog_36_method_131_code
def yJ7_checkLength_df160 : MethodName := ⟨RJ7, "checkLength", "(II)V"⟩
abbrev cJ7_copyOfRange_39247 : ByteArray := prog_36_method_132_code
def yJ7_copyOfRange_39247 : MethodName := ⟨RJ7, "copyOfRange", "([BII)[B"⟩
abbrev cJ7_copyOfRangeByte_39247 : ByteArray := prog_36_method_133_code
def yJ7_copyOfRangeByte_39247 : MethodName := ⟨RJ7, "copyOfRangeByte", "([BII)[B"⟩
def RJ8 : String := "jdk/internal/util/ArraysSupport"
def TJ8 : u_T := fun k => match k with
  | _ => ("", "", "", false)
def tyJ8 : Nat → FieldType := fun k => match k with
  | _ => .int
abbrev wsJ80 : List Cond := u_ws RJ8 TJ8 0
theorem nmJ8 : ∀ a, a < 0 → ∀ b, b < 0 → a ≠ b → (TJ8 a).2.1 ≠ (TJ8 b).2.1 := by decide +kernel
theorem tyJ8_ok : ∀ k, k < 0 → parseFieldDescriptor (TJ8 k).2.2.1 = some (tyJ8 k) := by decide +kernel
abbrev cJ8_newLength_cabcc : ByteArray := prog_38_method_27_code
def yJ8_newLength_cabcc : MethodName := ⟨RJ8, "newLength", "(III)I"⟩
abbrev cJ8_hugeLength_7cf53 : ByteArray := prog_38_method_28_code
def yJ8_hugeLength_7cf53 : MethodName := ⟨RJ8, "hugeLength", "(II)I"⟩
def RJ3 : String := "jdk/internal/util/Preconditions"
def TJ3 : u_T := fun k => match k with
  | _ => ("", "", "", false)
def tyJ3 : Nat → FieldType := fun k => match k with
  | _ => .int
abbrev wsJ30 : List Cond := u_ws RJ3 TJ3 0
theorem nmJ3 : ∀ a, a < 0 → ∀ b, b < 0 → a ≠ b → (TJ3 a).2.1 ≠ (TJ3 b).2.1 := by decide +kernel
theorem tyJ3_ok : ∀ k, k < 0 → parseFieldDescriptor (TJ3 k).2.2.1 = some (tyJ3 k) := by decide +kernel
abbrev cJ3_checkIndex_8e157 : ByteArray := prog_39_method_11_code
def yJ3_checkIndex_8e157 : MethodName := ⟨RJ3, "checkIndex", "(IILjava/util/function/BiFunction;)I"⟩
abbrev cJ3_checkFromToIndex_8c36e : ByteArray := prog_39_method_12_code
def yJ3_checkFromToIndex_8c36e : MethodName := ⟨RJ3, "checkFromToIndex", "(IIILjava/util/function/BiFunction;)I"⟩
abbrev cJ3_checkFromIndexSize_8c36e : ByteArray := prog_39_method_13_code
def yJ3_checkFromIndexSize_8c36e : MethodName := ⟨RJ3, "checkFromIndexSize", "(IIILjava/util/function/BiFunction;)I"⟩
def RL : String := "CricketCooperativeLaw"
abbrev cL_cell : ByteArray := method_2_code
def yL_cell : MethodName := ⟨RL, "cell", "([II)I"⟩
abbrev cL_pick : ByteArray := method_3_code
def yL_pick : MethodName := ⟨RL, "pick", "([III)I"⟩
abbrev cL_addMember : ByteArray := method_4_code
def yL_addMember : MethodName := ⟨RL, "addMember", "(LCricketCooperative;IIII)I"⟩
abbrev cL_wind : ByteArray := method_5_code
def yL_wind : MethodName := ⟨RL, "wind", "(LCricketCooperative;II)I"⟩
abbrev cL_tune : ByteArray := method_6_code
def yL_tune : MethodName := ⟨RL, "tune", "(LCricketCooperative;II)I"⟩
abbrev cL_buyShares : ByteArray := method_7_code
def yL_buyShares : MethodName := ⟨RL, "buyShares", "(LCricketCooperative;II)I"⟩
abbrev cL_passBeats : ByteArray := method_8_code
def yL_passBeats : MethodName := ⟨RL, "passBeats", "(LCricketCooperative;I)I"⟩
abbrev cL_endQuarter : ByteArray := method_9_code
def yL_endQuarter : MethodName := ⟨RL, "endQuarter", "(LCricketCooperative;)I"⟩
abbrev cL_vote : ByteArray := method_10_code
def yL_vote : MethodName := ⟨RL, "vote", "(LCricketCooperative;II)I"⟩
abbrev cL_shares : ByteArray := method_11_code
def yL_shares : MethodName := ⟨RL, "shares", "(LCricketCooperative;I)I"⟩
abbrev cL_spring : ByteArray := method_12_code
def yL_spring : MethodName := ⟨RL, "spring", "(LCricketCooperative;I)I"⟩
abbrev cL_tone : ByteArray := method_13_code
def yL_tone : MethodName := ⟨RL, "tone", "(LCricketCooperative;I)I"⟩
abbrev cL_purse : ByteArray := method_14_code
def yL_purse : MethodName := ⟨RL, "purse", "(LCricketCooperative;I)I"⟩
abbrev cL_dissents : ByteArray := method_15_code
def yL_dissents : MethodName := ⟨RL, "dissents", "(LCricketCooperative;I)I"⟩
abbrev cL_interval : ByteArray := method_16_code
def yL_interval : MethodName := ⟨RL, "interval", "(LCricketCooperative;II)I"⟩
abbrev cL_memberAtRank : ByteArray := method_17_code
def yL_memberAtRank : MethodName := ⟨RL, "memberAtRank", "(LCricketCooperative;I)I"⟩
abbrev cL_dueBeats : ByteArray := method_18_code
def yL_dueBeats : MethodName := ⟨RL, "dueBeats", "(LCricketCooperative;I)J"⟩
abbrev cL_dueBeatsByDoubling : ByteArray := method_19_code
def yL_dueBeatsByDoubling : MethodName := ⟨RL, "dueBeatsByDoubling", "(LCricketCooperative;I)J"⟩
abbrev cL_commonBeats : ByteArray := method_20_code
def yL_commonBeats : MethodName := ⟨RL, "commonBeats", "(LCricketCooperative;II)I"⟩
abbrev cL_beatsUntilChorus : ByteArray := method_21_code
def yL_beatsUntilChorus : MethodName := ⟨RL, "beatsUntilChorus", "(LCricketCooperative;)I"⟩
abbrev cL_earningsIn : ByteArray := method_22_code
def yL_earningsIn : MethodName := ⟨RL, "earningsIn", "(LCricketCooperative;I)I"⟩
abbrev cL_dividend : ByteArray := method_23_code
def yL_dividend : MethodName := ⟨RL, "dividend", "(LCricketCooperative;I)I"⟩
abbrev cL_dividendByCounting : ByteArray := method_24_code
def yL_dividendByCounting : MethodName := ⟨RL, "dividendByCounting", "(LCricketCooperative;I)I"⟩
abbrev cL_sharesInFavour : ByteArray := method_25_code
def yL_sharesInFavour : MethodName := ⟨RL, "sharesInFavour", "(LCricketCooperative;II)I"⟩
abbrev cL_carriedTone : ByteArray := method_26_code
def yL_carriedTone : MethodName := ⟨RL, "carriedTone", "(LCricketCooperative;I)I"⟩
abbrev cL_power : ByteArray := method_27_code
def yL_power : MethodName := ⟨RL, "power", "(LCricketCooperative;I)I"⟩
abbrev cL_powerByTable : ByteArray := method_28_code
def yL_powerByTable : MethodName := ⟨RL, "powerByTable", "(LCricketCooperative;I)I"⟩
abbrev cL_smallestMajority : ByteArray := method_29_code
def yL_smallestMajority : MethodName := ⟨RL, "smallestMajority", "(LCricketCooperative;)I"⟩
abbrev cL_spoiltBeat : ByteArray := method_30_code
def yL_spoiltBeat : MethodName := ⟨RL, "spoiltBeat", "(LCricketCooperative;I)I"⟩
abbrev cL_meanPurse : ByteArray := method_31_code
def yL_meanPurse : MethodName := ⟨RL, "meanPurse", "(LCricketCooperative;)D"⟩
abbrev cL_powerShare : ByteArray := method_32_code
def yL_powerShare : MethodName := ⟨RL, "powerShare", "(LCricketCooperative;I)F"⟩
abbrev cL_append : ByteArray := method_33_code
def yL_append : MethodName := ⟨RL, "append", "(LCricketCooperative;C)I"⟩
abbrev cL_run : ByteArray := method_34_code
def yL_run : MethodName := ⟨RL, "run", "(LCricketCooperative;)I"⟩
abbrev cL_writeMember : ByteArray := method_37_code
def yL_writeMember : MethodName := ⟨RL, "writeMember", "(LCricketCooperative;I)I"⟩
abbrev cL_undo : ByteArray := method_39_code
def yL_undo : MethodName := ⟨RL, "undo", "(LCricketCooperative;)I"⟩
abbrev cL_restore : ByteArray := method_40_code
def yL_restore : MethodName := ⟨RL, "restore", "(LCricketCooperative;)I"⟩
abbrev cL_runs : ByteArray := method_41_code
def yL_runs : MethodName := ⟨RL, "runs", "(LCricketCooperative;Ljava/lang/String;)I"⟩
abbrev cL_law : ByteArray := code
def yL_law : MethodName := ⟨RL, "law", "([I)Z"⟩
abbrev cL_does : ByteArray := method_44_code
def yL_does : MethodName := ⟨RL, "does", "([IIILCricketCooperative;IIIII)I"⟩
abbrev cL_sum : ByteArray := method_45_code
def yL_sum : MethodName := ⟨RL, "sum", "(LCricketCooperative;)J"⟩
abbrev cL_bits : ByteArray := method_46_code
def yL_bits : MethodName := ⟨RL, "bits", "(J)I"⟩
abbrev cL_isMember : ByteArray := method_47_code
def yL_isMember : MethodName := ⟨RL, "isMember", "(LCricketCooperative;II)Z"⟩
abbrev cL_isWhole : ByteArray := method_48_code
def yL_isWhole : MethodName := ⟨RL, "isWhole", "(LCricketCooperative;[IIZ)Z"⟩
abbrev cL_isKept : ByteArray := method_49_code
def yL_isKept : MethodName := ⟨RL, "isKept", "(LCricketCooperative;[JI)Z"⟩
abbrev vwCl : List vw_C := [(RJ0, TJ0, 4), (RJ4, TJ4, 4), (RJx00060, TJx00060, 6), (RJx7c733, TJx7c733, 6), (RX0, TX0, 2), (RX1, TX1, 2), (RX2, TX2, 3), (RX3, TX3, 6), (RX4, TX4, 16), (RX5, TX5, 11)]

/-- the words of the tables that stay when the tables grow warmer: one list for every method -/
def TG : List Cond := lw_tbl.filter goodWord
theorem tg_of {w : Cond} (i : Nat) (h : lw_tbl[i]? = some w) (g : goodWord w = true) : w ∈ TG := List.mem_filter.mpr ⟨List.mem_of_getElem? h, g⟩
theorem tg_lw {P : Cond → Prop} (h : ∀ w ∈ lw_tbl, P w) : ∀ w ∈ TG, P w := fun w hw => h w (List.mem_filter.mp hw).1
