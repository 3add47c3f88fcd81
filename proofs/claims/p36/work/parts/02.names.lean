def RX0 : String := "ChairLeague$Asking"
def TX0 : u_T := fun k => match k with
  | 0 => ("ChairLeague$Asking", "left", "LChairLeague$Row;", true)
  | 1 => ("ChairLeague$Asking", "asked", "LChairLeague$Row;", true)
  | 2 => ("ChairLeague$Asking", "sitter", "LChairLeague$Row;", true)
  | _ => ("ChairLeague$Asking", "place", "LChairLeague$Row;", true)
def tyX0 : Nat → FieldType := fun k => match k with
  | 0 => .object "ChairLeague$Row"
  | 1 => .object "ChairLeague$Row"
  | 2 => .object "ChairLeague$Row"
  | _ => .object "ChairLeague$Row"
abbrev wsX00 : List Cond := u_ws RX0 TX0 4
theorem nmX0 : ∀ a, a < 4 → ∀ b, b < 4 → a ≠ b → (TX0 a).2.1 ≠ (TX0 b).2.1 := by decide +kernel
theorem tyX0_ok : ∀ k, k < 4 → parseFieldDescriptor (TX0 k).2.2.1 = some (tyX0 k) := by decide +kernel
abbrev cX0_init : ByteArray := prog_2_method_1_code
def yX0_init : MethodName := ⟨RX0, "<init>", "()V"⟩
abbrev cX0_sitterOf : ByteArray := prog_2_method_2_code
def yX0_sitterOf : MethodName := ⟨RX0, "sitterOf", "(I)I"⟩
abbrev cX0_byTurns : ByteArray := prog_2_method_3_code
def yX0_byTurns : MethodName := ⟨RX0, "byTurns", "(LChairLeague$State;)V"⟩
abbrev cX0_byRounds : ByteArray := prog_2_method_4_code
def yX0_byRounds : MethodName := ⟨RX0, "byRounds", "(LChairLeague$State;)V"⟩
abbrev cX0_begin : ByteArray := prog_2_method_5_code
def yX0_begin : MethodName := ⟨RX0, "begin", "(LChairLeague$State;)V"⟩
abbrev cX0_canAsk : ByteArray := prog_2_method_6_code
def yX0_canAsk : MethodName := ⟨RX0, "canAsk", "(I)Z"⟩
abbrev cX0_lowestThatCanAsk : ByteArray := prog_2_method_7_code
def yX0_lowestThatCanAsk : MethodName := ⟨RX0, "lowestThatCanAsk", "(LChairLeague$State;)I"⟩
abbrev cX0_askNext : ByteArray := prog_2_method_8_code
def yX0_askNext : MethodName := ⟨RX0, "askNext", "(LChairLeague$State;I)I"⟩
abbrev cX0_askAtOnce : ByteArray := prog_2_method_9_code
def yX0_askAtOnce : MethodName := ⟨RX0, "askAtOnce", "(LChairLeague$State;)Z"⟩
abbrev cX0_bestOfAsking : ByteArray := prog_2_method_10_code
def yX0_bestOfAsking : MethodName := ⟨RX0, "bestOfAsking", "(LChairLeague$State;I)I"⟩
abbrev cX0_move : ByteArray := prog_2_method_11_code
def yX0_move : MethodName := ⟨RX0, "move", "(II)V"⟩
def RX1 : String := "ChairLeague$Books"
def TX1 : u_T := fun k => match k with
  | 0 => ("ChairLeague$Books", "league", "I", false)
  | 1 => ("ChairLeague$Books", "halls", "I", false)
  | 2 => ("ChairLeague$Books", "spent", "I", false)
  | 3 => ("ChairLeague$Books", "lost", "I", false)
  | 4 => ("ChairLeague$Books", "concerts", "I", false)
  | 5 => ("ChairLeague$Books", "seasons", "I", false)
  | _ => ("ChairLeague$Books", "sold", "I", false)
def tyX1 : Nat → FieldType := fun k => match k with
  | 0 => .int
  | 1 => .int
  | 2 => .int
  | 3 => .int
  | 4 => .int
  | 5 => .int
  | _ => .int
abbrev wsX10 : List Cond := u_ws RX1 TX1 7
theorem nmX1 : ∀ a, a < 7 → ∀ b, b < 7 → a ≠ b → (TX1 a).2.1 ≠ (TX1 b).2.1 := by decide +kernel
theorem tyX1_ok : ∀ k, k < 7 → parseFieldDescriptor (TX1 k).2.2.1 = some (tyX1 k) := by decide +kernel
abbrev cX1_init : ByteArray := prog_3_method_1_code
def yX1_init : MethodName := ⟨RX1, "<init>", "()V"⟩
abbrev cX1_copy : ByteArray := prog_3_method_2_code
def yX1_copy : MethodName := ⟨RX1, "copy", "(LChairLeague$Books;)V"⟩
def RX2 : String := "ChairLeague$Chairs"
def TX2 : u_T := fun k => match k with
  | 0 => ("ChairLeague$Chairs", "count", "I", false)
  | 1 => ("ChairLeague$Chairs", "section", "LChairLeague$Row;", true)
  | 2 => ("ChairLeague$Chairs", "need", "LChairLeague$Row;", true)
  | 3 => ("ChairLeague$Chairs", "cushion", "LChairLeague$Row;", true)
  | 4 => ("ChairLeague$Chairs", "stand", "LChairLeague$Row;", true)
  | 5 => ("ChairLeague$Chairs", "tier", "LChairLeague$Row;", true)
  | 6 => ("ChairLeague$Chairs", "marks", "LChairLeague$Row;", true)
  | _ => ("ChairLeague$Chairs", "sitter", "LChairLeague$Row;", true)
def tyX2 : Nat → FieldType := fun k => match k with
  | 0 => .int
  | 1 => .object "ChairLeague$Row"
  | 2 => .object "ChairLeague$Row"
  | 3 => .object "ChairLeague$Row"
  | 4 => .object "ChairLeague$Row"
  | 5 => .object "ChairLeague$Row"
  | 6 => .object "ChairLeague$Row"
  | _ => .object "ChairLeague$Row"
abbrev wsX20 : List Cond := u_ws RX2 TX2 8
theorem nmX2 : ∀ a, a < 8 → ∀ b, b < 8 → a ≠ b → (TX2 a).2.1 ≠ (TX2 b).2.1 := by decide +kernel
theorem tyX2_ok : ∀ k, k < 8 → parseFieldDescriptor (TX2 k).2.2.1 = some (tyX2 k) := by decide +kernel
abbrev cX2_init : ByteArray := prog_4_method_1_code
def yX2_init : MethodName := ⟨RX2, "<init>", "()V"⟩
abbrev cX2_bring : ByteArray := prog_4_method_2_code
def yX2_bring : MethodName := ⟨RX2, "bring", "(II)I"⟩
abbrev cX2_has : ByteArray := prog_4_method_3_code
def yX2_has : MethodName := ⟨RX2, "has", "(I)Z"⟩
abbrev cX2_isFallen : ByteArray := prog_4_method_4_code
def yX2_isFallen : MethodName := ⟨RX2, "isFallen", "(I)Z"⟩
abbrev cX2_isTaken : ByteArray := prog_4_method_5_code
def yX2_isTaken : MethodName := ⟨RX2, "isTaken", "(I)Z"⟩
abbrev cX2_comfort : ByteArray := prog_4_method_6_code
def yX2_comfort : MethodName := ⟨RX2, "comfort", "(I)I"⟩
abbrev cX2_fallen : ByteArray := prog_4_method_7_code
def yX2_fallen : MethodName := ⟨RX2, "fallen", "()I"⟩
abbrev cX2_isRather : ByteArray := prog_4_method_8_code
def yX2_isRather : MethodName := ⟨RX2, "isRather", "(II)Z"⟩
abbrev cX2_isAhead : ByteArray := prog_4_method_9_code
def yX2_isAhead : MethodName := ⟨RX2, "isAhead", "(II)Z"⟩
abbrev cX2_copy : ByteArray := prog_4_method_10_code
def yX2_copy : MethodName := ⟨RX2, "copy", "(LChairLeague$Chairs;)V"⟩
def RX3 : String := "ChairLeague$History"
def TX3 : u_T := fun k => match k with
  | 0 => ("ChairLeague$History", "states", "[LChairLeague$State;", true)
  | 1 => ("ChairLeague$History", "next", "I", false)
  | _ => ("ChairLeague$History", "count", "I", false)
def tyX3 : Nat → FieldType := fun k => match k with
  | 0 => .array (.object "ChairLeague$State")
  | 1 => .int
  | _ => .int
abbrev wsX30 : List Cond := u_ws RX3 TX3 3
theorem nmX3 : ∀ a, a < 3 → ∀ b, b < 3 → a ≠ b → (TX3 a).2.1 ≠ (TX3 b).2.1 := by decide +kernel
theorem tyX3_ok : ∀ k, k < 3 → parseFieldDescriptor (TX3 k).2.2.1 = some (tyX3 k) := by decide +kernel
abbrev cX3_init : ByteArray := prog_5_method_1_code
def yX3_init : MethodName := ⟨RX3, "<init>", "()V"⟩
abbrev cX3_count : ByteArray := prog_5_method_2_code
def yX3_count : MethodName := ⟨RX3, "count", "()I"⟩
abbrev cX3_mark : ByteArray := prog_5_method_3_code
def yX3_mark : MethodName := ⟨RX3, "mark", "(LChairLeague$State;)V"⟩
abbrev cX3_keep : ByteArray := prog_5_method_4_code
def yX3_keep : MethodName := ⟨RX3, "keep", "()V"⟩
abbrev cX3_stepBack : ByteArray := prog_5_method_5_code
def yX3_stepBack : MethodName := ⟨RX3, "stepBack", "()V"⟩
abbrev cX3_bringBack : ByteArray := prog_5_method_6_code
def yX3_bringBack : MethodName := ⟨RX3, "bringBack", "(LChairLeague$State;)V"⟩
abbrev cX3_forget : ByteArray := prog_5_method_7_code
def yX3_forget : MethodName := ⟨RX3, "forget", "()V"⟩
abbrev cX3_marked : ByteArray := prog_5_method_8_code
def yX3_marked : MethodName := ⟨RX3, "marked", "()LChairLeague$State;"⟩
def RX4 : String := "ChairLeague$Musicians"
def TX4 : u_T := fun k => match k with
  | 0 => ("ChairLeague$Musicians", "count", "I", false)
  | 1 => ("ChairLeague$Musicians", "section", "LChairLeague$Row;", true)
  | 2 => ("ChairLeague$Musicians", "skill", "LChairLeague$Row;", true)
  | 3 => ("ChairLeague$Musicians", "demand", "LChairLeague$Row;", true)
  | 4 => ("ChairLeague$Musicians", "coins", "LChairLeague$Row;", true)
  | 5 => ("ChairLeague$Musicians", "offer", "LChairLeague$Row;", true)
  | 6 => ("ChairLeague$Musicians", "place", "LChairLeague$Row;", true)
  | _ => ("ChairLeague$Musicians", "played", "LChairLeague$Row;", true)
def tyX4 : Nat → FieldType := fun k => match k with
  | 0 => .int
  | 1 => .object "ChairLeague$Row"
  | 2 => .object "ChairLeague$Row"
  | 3 => .object "ChairLeague$Row"
  | 4 => .object "ChairLeague$Row"
  | 5 => .object "ChairLeague$Row"
  | 6 => .object "ChairLeague$Row"
  | _ => .object "ChairLeague$Row"
abbrev wsX40 : List Cond := u_ws RX4 TX4 8
theorem nmX4 : ∀ a, a < 8 → ∀ b, b < 8 → a ≠ b → (TX4 a).2.1 ≠ (TX4 b).2.1 := by decide +kernel
theorem tyX4_ok : ∀ k, k < 8 → parseFieldDescriptor (TX4 k).2.2.1 = some (tyX4 k) := by decide +kernel
abbrev cX4_init : ByteArray := prog_6_method_1_code
def yX4_init : MethodName := ⟨RX4, "<init>", "()V"⟩
abbrev cX4_bring : ByteArray := prog_6_method_2_code
def yX4_bring : MethodName := ⟨RX4, "bring", "(III)I"⟩
abbrev cX4_has : ByteArray := prog_6_method_3_code
def yX4_has : MethodName := ⟨RX4, "has", "(I)Z"⟩
abbrev cX4_sits : ByteArray := prog_6_method_4_code
def yX4_sits : MethodName := ⟨RX4, "sits", "(I)Z"⟩
abbrev cX4_sitting : ByteArray := prog_6_method_5_code
def yX4_sitting : MethodName := ⟨RX4, "sitting", "()I"⟩
abbrev cX4_allCoins : ByteArray := prog_6_method_6_code
def yX4_allCoins : MethodName := ⟨RX4, "allCoins", "()I"⟩
abbrev cX4_highestBidder : ByteArray := prog_6_method_7_code
def yX4_highestBidder : MethodName := ⟨RX4, "highestBidder", "(I)I"⟩
abbrev cX4_forgetBids : ByteArray := prog_6_method_8_code
def yX4_forgetBids : MethodName := ⟨RX4, "forgetBids", "()V"⟩
abbrev cX4_isAhead : ByteArray := prog_6_method_9_code
def yX4_isAhead : MethodName := ⟨RX4, "isAhead", "(II)Z"⟩
abbrev cX4_copy : ByteArray := prog_6_method_10_code
def yX4_copy : MethodName := ⟨RX4, "copy", "(LChairLeague$Musicians;)V"⟩
def RX5 : String := "ChairLeague$Orders"
def TX5 : u_T := fun k => match k with
  | 0 => ("ChairLeague$Orders", "text", "LChairLeague$Signs;", true)
  | 1 => ("ChairLeague$Orders", "kind", "LChairLeague$Row;", true)
  | 2 => ("ChairLeague$Orders", "first", "LChairLeague$Row;", true)
  | 3 => ("ChairLeague$Orders", "second", "LChairLeague$Row;", true)
  | 4 => ("ChairLeague$Orders", "third", "LChairLeague$Row;", true)
  | 5 => ("ChairLeague$Orders", "count", "I", false)
  | _ => ("ChairLeague$Orders", "place", "I", false)
def tyX5 : Nat → FieldType := fun k => match k with
  | 0 => .object "ChairLeague$Signs"
  | 1 => .object "ChairLeague$Row"
  | 2 => .object "ChairLeague$Row"
  | 3 => .object "ChairLeague$Row"
  | 4 => .object "ChairLeague$Row"
  | 5 => .int
  | _ => .int
abbrev wsX50 : List Cond := u_ws RX5 TX5 7
theorem nmX5 : ∀ a, a < 7 → ∀ b, b < 7 → a ≠ b → (TX5 a).2.1 ≠ (TX5 b).2.1 := by decide +kernel
theorem tyX5_ok : ∀ k, k < 7 → parseFieldDescriptor (TX5 k).2.2.1 = some (tyX5 k) := by decide +kernel
abbrev cX5_init : ByteArray := prog_7_method_1_code
def yX5_init : MethodName := ⟨RX5, "<init>", "()V"⟩
abbrev cX5_count : ByteArray := prog_7_method_2_code
def yX5_count : MethodName := ⟨RX5, "count", "()I"⟩
abbrev cX5_read : ByteArray := prog_7_method_3_code
def yX5_read : MethodName := ⟨RX5, "read", "()I"⟩
abbrev cX5_readOrder : ByteArray := prog_7_method_4_code
def yX5_readOrder : MethodName := ⟨RX5, "readOrder", "(I)Z"⟩
abbrev cX5_readSign : ByteArray := prog_7_method_5_code
def yX5_readSign : MethodName := ⟨RX5, "readSign", "(I)Z"⟩
abbrev cX5_readDigit : ByteArray := prog_7_method_6_code
def yX5_readDigit : MethodName := ⟨RX5, "readDigit", "(LChairLeague$Row;)Z"⟩
abbrev cX5_readCoins : ByteArray := prog_7_method_7_code
def yX5_readCoins : MethodName := ⟨RX5, "readCoins", "()Z"⟩
abbrev cX5_isDigit : ByteArray := prog_7_method_8_code
def yX5_isDigit : MethodName := ⟨RX5, "isDigit", "(I)Z"⟩
def RX6 : String := "ChairLeague$Reasons"
def TX6 : u_T := fun k => match k with
  | 0 => ("ChairLeague$Reasons", "number", "LChairLeague$Row;", true)
  | 1 => ("ChairLeague$Reasons", "detail", "LChairLeague$Row;", true)
  | _ => ("ChairLeague$Reasons", "count", "I", false)
def tyX6 : Nat → FieldType := fun k => match k with
  | 0 => .object "ChairLeague$Row"
  | 1 => .object "ChairLeague$Row"
  | _ => .int
abbrev wsX60 : List Cond := u_ws RX6 TX6 3
theorem nmX6 : ∀ a, a < 3 → ∀ b, b < 3 → a ≠ b → (TX6 a).2.1 ≠ (TX6 b).2.1 := by decide +kernel
theorem tyX6_ok : ∀ k, k < 3 → parseFieldDescriptor (TX6 k).2.2.1 = some (tyX6 k) := by decide +kernel
abbrev cX6_init : ByteArray := prog_8_method_1_code
def yX6_init : MethodName := ⟨RX6, "<init>", "()V"⟩
abbrev cX6_stands : ByteArray := prog_8_method_2_code
def yX6_stands : MethodName := ⟨RX6, "stands", "(I)Z"⟩
abbrev cX6_begin : ByteArray := prog_8_method_3_code
def yX6_begin : MethodName := ⟨RX6, "begin", "(II)V"⟩
abbrev cX6_putAhead : ByteArray := prog_8_method_4_code
def yX6_putAhead : MethodName := ⟨RX6, "putAhead", "(II)V"⟩
def RX7 : String := "ChairLeague$Row"
def TX7 : u_T := fun k => match k with
  | _ => ("ChairLeague$Row", "numbers", "[I", true)
def tyX7 : Nat → FieldType := fun k => match k with
  | _ => .array .int
abbrev wsX70 : List Cond := u_ws RX7 TX7 1
theorem nmX7 : ∀ a, a < 1 → ∀ b, b < 1 → a ≠ b → (TX7 a).2.1 ≠ (TX7 b).2.1 := by decide +kernel
theorem tyX7_ok : ∀ k, k < 1 → parseFieldDescriptor (TX7 k).2.2.1 = some (tyX7 k) := by decide +kernel
abbrev cX7_init : ByteArray := prog_9_method_1_code
def yX7_init : MethodName := ⟨RX7, "<init>", "(I)V"⟩
abbrev cX7_at : ByteArray := prog_9_method_2_code
def yX7_at : MethodName := ⟨RX7, "at", "(I)I"⟩
abbrev cX7_put : ByteArray := prog_9_method_3_code
def yX7_put : MethodName := ⟨RX7, "put", "(II)V"⟩
abbrev cX7_more : ByteArray := prog_9_method_4_code
def yX7_more : MethodName := ⟨RX7, "more", "(II)V"⟩
abbrev cX7_copy : ByteArray := prog_9_method_5_code
def yX7_copy : MethodName := ⟨RX7, "copy", "(LChairLeague$Row;)V"⟩
def RX8 : String := "ChairLeague$Signs"
def TX8 : u_T := fun k => match k with
  | 0 => ("ChairLeague$Signs", "most", "I", true)
  | 1 => ("ChairLeague$Signs", "codes", "LChairLeague$Row;", true)
  | _ => ("ChairLeague$Signs", "length", "I", false)
def tyX8 : Nat → FieldType := fun k => match k with
  | 0 => .int
  | 1 => .object "ChairLeague$Row"
  | _ => .int
abbrev wsX80 : List Cond := u_ws RX8 TX8 3
theorem nmX8 : ∀ a, a < 3 → ∀ b, b < 3 → a ≠ b → (TX8 a).2.1 ≠ (TX8 b).2.1 := by decide +kernel
theorem tyX8_ok : ∀ k, k < 3 → parseFieldDescriptor (TX8 k).2.2.1 = some (tyX8 k) := by decide +kernel
abbrev cX8_init : ByteArray := prog_10_method_1_code
def yX8_init : MethodName := ⟨RX8, "<init>", "(I)V"⟩
abbrev cX8_length : ByteArray := prog_10_method_2_code
def yX8_length : MethodName := ⟨RX8, "length", "()I"⟩
abbrev cX8_at : ByteArray := prog_10_method_3_code
def yX8_at : MethodName := ⟨RX8, "at", "(I)I"⟩
abbrev cX8_clear : ByteArray := prog_10_method_4_code
def yX8_clear : MethodName := ⟨RX8, "clear", "()V"⟩
abbrev cX8_put : ByteArray := prog_10_method_5_code
def yX8_put : MethodName := ⟨RX8, "put", "(I)V"⟩
abbrev cX8_putNumber : ByteArray := prog_10_method_6_code
def yX8_putNumber : MethodName := ⟨RX8, "putNumber", "(I)V"⟩
def RX9 : String := "ChairLeague$State"
def TX9 : u_T := fun k => match k with
  | 0 => ("ChairLeague$State", "chairs", "LChairLeague$Chairs;", true)
  | 1 => ("ChairLeague$State", "musicians", "LChairLeague$Musicians;", true)
  | _ => ("ChairLeague$State", "books", "LChairLeague$Books;", true)
def tyX9 : Nat → FieldType := fun k => match k with
  | 0 => .object "ChairLeague$Chairs"
  | 1 => .object "ChairLeague$Musicians"
  | _ => .object "ChairLeague$Books"
abbrev wsX90 : List Cond := u_ws RX9 TX9 3
theorem nmX9 : ∀ a, a < 3 → ∀ b, b < 3 → a ≠ b → (TX9 a).2.1 ≠ (TX9 b).2.1 := by decide +kernel
theorem tyX9_ok : ∀ k, k < 3 → parseFieldDescriptor (TX9 k).2.2.1 = some (tyX9 k) := by decide +kernel
abbrev cX9_init : ByteArray := prog_11_method_1_code
def yX9_init : MethodName := ⟨RX9, "<init>", "()V"⟩
abbrev cX9_fitOf : ByteArray := prog_11_method_2_code
def yX9_fitOf : MethodName := ⟨RX9, "fitOf", "(II)I"⟩
abbrev cX9_wants : ByteArray := prog_11_method_3_code
def yX9_wants : MethodName := ⟨RX9, "wants", "(II)Z"⟩
abbrev cX9_bears : ByteArray := prog_11_method_4_code
def yX9_bears : MethodName := ⟨RX9, "bears", "(II)Z"⟩
abbrev cX9_isRatherHad : ByteArray := prog_11_method_5_code
def yX9_isRatherHad : MethodName := ⟨RX9, "isRatherHad", "(III)Z"⟩
abbrev cX9_sit : ByteArray := prog_11_method_6_code
def yX9_sit : MethodName := ⟨RX9, "sit", "(II)V"⟩
abbrev cX9_leave : ByteArray := prog_11_method_7_code
def yX9_leave : MethodName := ⟨RX9, "leave", "(I)V"⟩
abbrev cX9_play : ByteArray := prog_11_method_8_code
def yX9_play : MethodName := ⟨RX9, "play", "(I)I"⟩
abbrev cX9_wearOf : ByteArray := prog_11_method_9_code
def yX9_wearOf : MethodName := ⟨RX9, "wearOf", "(II)I"⟩
abbrev cX9_wear : ByteArray := prog_11_method_10_code
def yX9_wear : MethodName := ⟨RX9, "wear", "(II)V"⟩
abbrev cX9_copy : ByteArray := prog_11_method_11_code
def yX9_copy : MethodName := ⟨RX9, "copy", "(LChairLeague$State;)V"⟩
def RX10 : String := "ChairLeague"
def TX10 : u_T := fun k => match k with
  | 0 => ("ChairLeague", "now", "LChairLeague$State;", true)
  | 1 => ("ChairLeague", "snapshot", "LChairLeague$State;", true)
  | 2 => ("ChairLeague", "isSaved", "Z", false)
  | 3 => ("ChairLeague", "history", "LChairLeague$History;", true)
  | 4 => ("ChairLeague", "turns", "LChairLeague$Asking;", true)
  | 5 => ("ChairLeague", "rounds", "LChairLeague$Asking;", true)
  | 6 => ("ChairLeague", "orders", "LChairLeague$Orders;", true)
  | 7 => ("ChairLeague", "line", "LChairLeague$Signs;", true)
  | _ => ("ChairLeague", "reasons", "LChairLeague$Reasons;", true)
def tyX10 : Nat → FieldType := fun k => match k with
  | 0 => .object "ChairLeague$State"
  | 1 => .object "ChairLeague$State"
  | 2 => .boolean
  | 3 => .object "ChairLeague$History"
  | 4 => .object "ChairLeague$Asking"
  | 5 => .object "ChairLeague$Asking"
  | 6 => .object "ChairLeague$Orders"
  | 7 => .object "ChairLeague$Signs"
  | _ => .object "ChairLeague$Reasons"
abbrev wsX100 : List Cond := u_ws RX10 TX10 9
theorem nmX10 : ∀ a, a < 9 → ∀ b, b < 9 → a ≠ b → (TX10 a).2.1 ≠ (TX10 b).2.1 := by decide +kernel
theorem tyX10_ok : ∀ k, k < 9 → parseFieldDescriptor (TX10 k).2.2.1 = some (tyX10 k) := by decide +kernel
abbrev cX10_init : ByteArray := prog_1_method_1_code
def yX10_init : MethodName := ⟨RX10, "<init>", "()V"⟩
abbrev cX10_chair : ByteArray := prog_1_method_2_code
def yX10_chair : MethodName := ⟨RX10, "chair", "(II)I"⟩
abbrev cX10_musician : ByteArray := prog_1_method_3_code
def yX10_musician : MethodName := ⟨RX10, "musician", "(III)I"⟩
abbrev cX10_chairOf : ByteArray := prog_1_method_4_code
def yX10_chairOf : MethodName := ⟨RX10, "chairOf", "(II)I"⟩
abbrev cX10_musicianOf : ByteArray := prog_1_method_5_code
def yX10_musicianOf : MethodName := ⟨RX10, "musicianOf", "(II)I"⟩
abbrev cX10_fit : ByteArray := prog_1_method_6_code
def yX10_fit : MethodName := ⟨RX10, "fit", "(II)I"⟩
abbrev cX10_seat : ByteArray := prog_1_method_7_code
def yX10_seat : MethodName := ⟨RX10, "seat", "(II)I"⟩
abbrev cX10_rise : ByteArray := prog_1_method_8_code
def yX10_rise : MethodName := ⟨RX10, "rise", "(I)I"⟩
abbrev cX10_season : ByteArray := prog_1_method_9_code
def yX10_season : MethodName := ⟨RX10, "season", "()I"⟩
abbrev cX10_would : ByteArray := prog_1_method_10_code
def yX10_would : MethodName := ⟨RX10, "would", "(I)I"⟩
abbrev cX10_wouldAgain : ByteArray := prog_1_method_11_code
def yX10_wouldAgain : MethodName := ⟨RX10, "wouldAgain", "(I)I"⟩
abbrev cX10_restless : ByteArray := prog_1_method_12_code
def yX10_restless : MethodName := ⟨RX10, "restless", "()I"⟩
abbrev cX10_bid : ByteArray := prog_1_method_13_code
def yX10_bid : MethodName := ⟨RX10, "bid", "(II)I"⟩
abbrev cX10_sell : ByteArray := prog_1_method_14_code
def yX10_sell : MethodName := ⟨RX10, "sell", "(I)I"⟩
abbrev cX10_concert : ByteArray := prog_1_method_15_code
def yX10_concert : MethodName := ⟨RX10, "concert", "(I)I"⟩
abbrev cX10_lasts : ByteArray := prog_1_method_16_code
def yX10_lasts : MethodName := ⟨RX10, "lasts", "(I)I"⟩
abbrev cX10_raise : ByteArray := prog_1_method_17_code
def yX10_raise : MethodName := ⟨RX10, "raise", "(I)I"⟩
abbrev cX10_promote : ByteArray := prog_1_method_18_code
def yX10_promote : MethodName := ⟨RX10, "promote", "(I)I"⟩
abbrev cX10_hall : ByteArray := prog_1_method_19_code
def yX10_hall : MethodName := ⟨RX10, "hall", "(I)I"⟩
abbrev cX10_ranked : ByteArray := prog_1_method_20_code
def yX10_ranked : MethodName := ⟨RX10, "ranked", "(I)I"⟩
abbrev cX10_richest : ByteArray := prog_1_method_21_code
def yX10_richest : MethodName := ⟨RX10, "richest", "(I)I"⟩
abbrev cX10_append : ByteArray := prog_1_method_22_code
def yX10_append : MethodName := ⟨RX10, "append", "(I)I"⟩
abbrev cX10_run : ByteArray := prog_1_method_23_code
def yX10_run : MethodName := ⟨RX10, "run", "()I"⟩
abbrev cX10_tell : ByteArray := prog_1_method_24_code
def yX10_tell : MethodName := ⟨RX10, "tell", "(I)I"⟩
abbrev cX10_reason : ByteArray := prog_1_method_27_code
def yX10_reason : MethodName := ⟨RX10, "reason", "(IZ)I"⟩
abbrev cX10_account : ByteArray := prog_1_method_28_code
def yX10_account : MethodName := ⟨RX10, "account", "(I)I"⟩
abbrev cX10_isBalanced : ByteArray := prog_1_method_29_code
def yX10_isBalanced : MethodName := ⟨RX10, "isBalanced", "()I"⟩
abbrev cX10_meanFit : ByteArray := prog_1_method_30_code
def yX10_meanFit : MethodName := ⟨RX10, "meanFit", "()D"⟩
abbrev cX10_fallenShare : ByteArray := prog_1_method_31_code
def yX10_fallenShare : MethodName := ⟨RX10, "fallenShare", "()F"⟩
abbrev cX10_undo : ByteArray := prog_1_method_32_code
def yX10_undo : MethodName := ⟨RX10, "undo", "()I"⟩
abbrev cX10_save : ByteArray := prog_1_method_33_code
def yX10_save : MethodName := ⟨RX10, "save", "()I"⟩
abbrev cX10_restore : ByteArray := prog_1_method_34_code
def yX10_restore : MethodName := ⟨RX10, "restore", "()I"⟩
abbrev cX10_bringChair : ByteArray := prog_1_method_35_code
def yX10_bringChair : MethodName := ⟨RX10, "bringChair", "(II)I"⟩
abbrev cX10_bringMusician : ByteArray := prog_1_method_36_code
def yX10_bringMusician : MethodName := ⟨RX10, "bringMusician", "(III)I"⟩
abbrev cX10_seatMusician : ByteArray := prog_1_method_37_code
def yX10_seatMusician : MethodName := ⟨RX10, "seatMusician", "(II)I"⟩
abbrev cX10_letRise : ByteArray := prog_1_method_38_code
def yX10_letRise : MethodName := ⟨RX10, "letRise", "(I)I"⟩
abbrev cX10_beginSeason : ByteArray := prog_1_method_39_code
def yX10_beginSeason : MethodName := ⟨RX10, "beginSeason", "()I"⟩
abbrev cX10_takeBid : ByteArray := prog_1_method_40_code
def yX10_takeBid : MethodName := ⟨RX10, "takeBid", "(II)I"⟩
abbrev cX10_sellCushion : ByteArray := prog_1_method_41_code
def yX10_sellCushion : MethodName := ⟨RX10, "sellCushion", "(I)I"⟩
abbrev cX10_giveConcert : ByteArray := prog_1_method_42_code
def yX10_giveConcert : MethodName := ⟨RX10, "giveConcert", "(I)I"⟩
abbrev cX10_putUp : ByteArray := prog_1_method_43_code
def yX10_putUp : MethodName := ⟨RX10, "putUp", "(I)I"⟩
abbrev cX10_moveUp : ByteArray := prog_1_method_44_code
def yX10_moveUp : MethodName := ⟨RX10, "moveUp", "(I)I"⟩
abbrev cX10_carryOut : ByteArray := prog_1_method_45_code
def yX10_carryOut : MethodName := ⟨RX10, "carryOut", "(I)I"⟩
abbrev cX10_settled : ByteArray := prog_1_method_46_code
def yX10_settled : MethodName := ⟨RX10, "settled", "(I)I"⟩
abbrev cX10_refused : ByteArray := prog_1_method_47_code
def yX10_refused : MethodName := ⟨RX10, "refused", "(II)I"⟩
abbrev cX10_refusedSeat : ByteArray := prog_1_method_48_code
def yX10_refusedSeat : MethodName := ⟨RX10, "refusedSeat", "(III)I"⟩
abbrev cX10_refusedOrder : ByteArray := prog_1_method_49_code
def yX10_refusedOrder : MethodName := ⟨RX10, "refusedOrder", "(II)I"⟩
abbrev cX10_orNothing : ByteArray := prog_1_method_50_code
def yX10_orNothing : MethodName := ⟨RX10, "orNothing", "(I)I"⟩
abbrev cX10_isWithin : ByteArray := prog_1_method_51_code
def yX10_isWithin : MethodName := ⟨RX10, "isWithin", "(III)Z"⟩
abbrev cX10_areThere : ByteArray := prog_1_method_52_code
def yX10_areThere : MethodName := ⟨RX10, "areThere", "(II)Z"⟩
abbrev cX10_areRestless : ByteArray := prog_1_method_53_code
def yX10_areRestless : MethodName := ⟨RX10, "areRestless", "(II)Z"⟩
abbrev cX10_areCoinsThere : ByteArray := prog_1_method_55_code
def yX10_areCoinsThere : MethodName := ⟨RX10, "areCoinsThere", "()Z"⟩
abbrev cX10_areSeatsPaired : ByteArray := prog_1_method_56_code
def yX10_areSeatsPaired : MethodName := ⟨RX10, "areSeatsPaired", "()Z"⟩
abbrev cX10_areWaysAlike : ByteArray := prog_1_method_57_code
def yX10_areWaysAlike : MethodName := ⟨RX10, "areWaysAlike", "()Z"⟩
def RX11 : String := "ChairLeagueModel"
def TX11 : u_T := fun k => match k with
  | _ => ("", "", "", false)
def tyX11 : Nat → FieldType := fun k => match k with
  | _ => .int
abbrev wsX110 : List Cond := u_ws RX11 TX11 0
theorem nmX11 : ∀ a, a < 0 → ∀ b, b < 0 → a ≠ b → (TX11 a).2.1 ≠ (TX11 b).2.1 := by decide +kernel
theorem tyX11_ok : ∀ k, k < 0 → parseFieldDescriptor (TX11 k).2.2.1 = some (tyX11 k) := by decide +kernel
def RJ9 : String := "java/lang/Math"
def TJ9 : u_T := fun k => match k with
  | _ => ("", "", "", false)
def tyJ9 : Nat → FieldType := fun k => match k with
  | _ => .int
abbrev wsJ90 : List Cond := u_ws RJ9 TJ9 0
theorem nmJ9 : ∀ a, a < 0 → ∀ b, b < 0 → a ≠ b → (TJ9 a).2.1 ≠ (TJ9 b).2.1 := by decide +kernel
theorem tyJ9_ok : ∀ k, k < 0 → parseFieldDescriptor (TJ9 k).2.2.1 = some (tyJ9 k) := by decide +kernel
abbrev cJ9_abs_0f7a4 : ByteArray := prog_14_method_59_code
def yJ9_abs_0f7a4 : MethodName := ⟨RJ9, "abs", "(I)I"⟩
abbrev cJ9_max_7cf53 : ByteArray := prog_14_method_65_code
def yJ9_max_7cf53 : MethodName := ⟨RJ9, "max", "(II)I"⟩
abbrev cJ9_min_7cf53 : ByteArray := prog_14_method_69_code
def yJ9_min_7cf53 : MethodName := ⟨RJ9, "min", "(II)I"⟩
def RJ0 : String := "java/lang/String"
def TJ0 : u_T := fun k => match k with
  | _ => ("", "", "", false)
def tyJ0 : Nat → FieldType := fun k => match k with
  | _ => .int
abbrev wsJ00 : List Cond := u_ws RJ0 TJ0 0
theorem nmJ0 : ∀ a, a < 0 → ∀ b, b < 0 → a ≠ b → (TJ0 a).2.1 ≠ (TJ0 b).2.1 := by decide +kernel
theorem tyJ0_ok : ∀ k, k < 0 → parseFieldDescriptor (TJ0 k).2.2.1 = some (tyJ0 k) := by decide +kernel
abbrev cJ0_length_8abf5 : ByteArray := prog_15_method_54_code
def yJ0_length_8abf5 : MethodName := ⟨RJ0, "length", "()I"⟩
abbrev cJ0_charAt_5068e : ByteArray := prog_15_method_56_code
def yJ0_charAt_5068e : MethodName := ⟨RJ0, "charAt", "(I)C"⟩
abbrev cJ0_coder_7d493 : ByteArray := prog_15_method_152_code
def yJ0_coder_7d493 : MethodName := ⟨RJ0, "coder", "()B"⟩
abbrev cJ0_isLatin1_aae02 : ByteArray := prog_15_method_154_code
def yJ0_isLatin1_aae02 : MethodName := ⟨RJ0, "isLatin1", "()Z"⟩
abbrev cJ0_checkIndex_df160 : ByteArray := prog_15_method_155_code
def yJ0_checkIndex_df160 : MethodName := ⟨RJ0, "checkIndex", "(II)V"⟩
def RJ1 : String := "java/lang/StringLatin1"
def TJ1 : u_T := fun k => match k with
  | _ => ("", "", "", false)
def tyJ1 : Nat → FieldType := fun k => match k with
  | _ => .int
abbrev wsJ10 : List Cond := u_ws RJ1 TJ1 0
theorem nmJ1 : ∀ a, a < 0 → ∀ b, b < 0 → a ≠ b → (TJ1 a).2.1 ≠ (TJ1 b).2.1 := by decide +kernel
theorem tyJ1_ok : ∀ k, k < 0 → parseFieldDescriptor (TJ1 k).2.2.1 = some (tyJ1 k) := by decide +kernel
abbrev cJ1_charAt_3b067 : ByteArray := prog_16_method_2_code
def yJ1_charAt_3b067 : MethodName := ⟨RJ1, "charAt", "([BI)C"⟩
def RJ2 : String := "java/lang/StringUTF16"
def TJ2 : u_T := fun k => match k with
  | _ => ("", "", "", false)
def tyJ2 : Nat → FieldType := fun k => match k with
  | _ => .int
abbrev wsJ20 : List Cond := u_ws RJ2 TJ2 0
theorem nmJ2 : ∀ a, a < 0 → ∀ b, b < 0 → a ≠ b → (TJ2 a).2.1 ≠ (TJ2 b).2.1 := by decide +kernel
theorem tyJ2_ok : ∀ k, k < 0 → parseFieldDescriptor (TJ2 k).2.2.1 = some (tyJ2 k) := by decide +kernel
abbrev cJ2_getChar_3b067 : ByteArray := prog_17_method_5_code
def yJ2_getChar_3b067 : MethodName := ⟨RJ2, "getChar", "([BI)C"⟩
abbrev cJ2_length_9d52b : ByteArray := prog_17_method_6_code
def yJ2_length_9d52b : MethodName := ⟨RJ2, "length", "([B)I"⟩
abbrev cJ2_charAt_3b067 : ByteArray := prog_17_method_83_code
def yJ2_charAt_3b067 : MethodName := ⟨RJ2, "charAt", "([BI)C"⟩
abbrev cJ2_checkIndex_2214a : ByteArray := prog_17_method_91_code
def yJ2_checkIndex_2214a : MethodName := ⟨RJ2, "checkIndex", "(I[B)V"⟩
def RJ10 : String := "java/lang/System"
def TJ10 : u_T := fun k => match k with
  | _ => ("", "", "", false)
def tyJ10 : Nat → FieldType := fun k => match k with
  | _ => .int
abbrev wsJ100 : List Cond := u_ws RJ10 TJ10 0
theorem nmJ10 : ∀ a, a < 0 → ∀ b, b < 0 → a ≠ b → (TJ10 a).2.1 ≠ (TJ10 b).2.1 := by decide +kernel
theorem tyJ10_ok : ∀ k, k < 0 → parseFieldDescriptor (TJ10 k).2.2.1 = some (tyJ10 k) := by decide +kernel
def RJ3 : String := "jdk/internal/util/Preconditions"
def TJ3 : u_T := fun k => match k with
  | _ => ("", "", "", false)
def tyJ3 : Nat → FieldType := fun k => match k with
  | _ => .int
abbrev wsJ30 : List Cond := u_ws RJ3 TJ3 0
theorem nmJ3 : ∀ a, a < 0 → ∀ b, b < 0 → a ≠ b → (TJ3 a).2.1 ≠ (TJ3 b).2.1 := by decide +kernel
theorem tyJ3_ok : ∀ k, k < 0 → parseFieldDescriptor (TJ3 k).2.2.1 = some (tyJ3 k) := by decide +kernel
abbrev cJ3_checkIndex_8e157 : ByteArray := prog_19_method_11_code
def yJ3_checkIndex_8e157 : MethodName := ⟨RJ3, "checkIndex", "(IILjava/util/function/BiFunction;)I"⟩
def RL : String := "ChairLeagueLaw"
abbrev cL_cell : ByteArray := method_2_code
def yL_cell : MethodName := ⟨RL, "cell", "([II)I"⟩
abbrev cL_write : ByteArray := method_3_code
def yL_write : MethodName := ⟨RL, "write", "(LChairLeague;Ljava/lang/String;)LChairLeague;"⟩
abbrev cL_act : ByteArray := method_4_code
def yL_act : MethodName := ⟨RL, "act", "(LChairLeague;I)I"⟩
abbrev cL_digest : ByteArray := method_5_code
def yL_digest : MethodName := ⟨RL, "digest", "(LChairLeague;)J"⟩
abbrev cL_areSeats : ByteArray := method_6_code
def yL_areSeats : MethodName := ⟨RL, "areSeats", "(LChairLeague;)Z"⟩
abbrev cL_isSeason : ByteArray := method_7_code
def yL_isSeason : MethodName := ⟨RL, "isSeason", "(LChairLeague;)Z"⟩
abbrev cL_isConcert : ByteArray := method_8_code
def yL_isConcert : MethodName := ⟨RL, "isConcert", "(LChairLeague;I)Z"⟩
abbrev cL_isSale : ByteArray := method_9_code
def yL_isSale : MethodName := ⟨RL, "isSale", "(LChairLeague;)Z"⟩
abbrev cL_areOrders : ByteArray := method_10_code
def yL_areOrders : MethodName := ⟨RL, "areOrders", "(LChairLeague;)Z"⟩
abbrev cL_isFit : ByteArray := method_11_code
def yL_isFit : MethodName := ⟨RL, "isFit", "(LChairLeague;)Z"⟩
abbrev cL_law : ByteArray := code
def yL_law : MethodName := ⟨RL, "law", "([I)Z"⟩
def wsL_law_r1 : List Cond := [Cond.classLink RL 1 RX10, Cond.instantiable RX10 9, Cond.initialized RX10, Cond.fieldLink RL 56 "ChairLeagueLaw" "TEXTS" "[Ljava/lang/String;", Cond.methodLink RL 162 yX10_init, Cond.instanceMethod yX10_init, Cond.code yX10_init cX10_init 1 none, Cond.methodLink RX10 1 objectInit, Cond.instanceMethod objectInit, Cond.code objectInit ⟨#[0xb1]⟩ 1 none, Cond.classLink RX10 7 RX9, Cond.instantiable RX9 3, Cond.initialized RX9, Cond.fieldLink RX10 10 "ChairLeague" "now" "LChairLeague$State;", Cond.fieldLink RX10 16 "ChairLeague" "snapshot" "LChairLeague$State;", Cond.classLink RX10 19 RX3, Cond.instantiable RX3 3, Cond.initialized RX3, Cond.fieldLink RX10 22 "ChairLeague" "history" "LChairLeague$History;", Cond.classLink RX10 26 RX0, Cond.instantiable RX0 4, Cond.initialized RX0, Cond.fieldLink RX10 29 "ChairLeague" "turns" "LChairLeague$Asking;", Cond.fieldLink RX10 33 "ChairLeague" "rounds" "LChairLeague$Asking;"]
def wsL_law_r2 : List Cond := [Cond.classLink RX10 36 RX5, Cond.instantiable RX5 7, Cond.initialized RX5, Cond.fieldLink RX10 39 "ChairLeague" "orders" "LChairLeague$Orders;", Cond.classLink RX10 43 RX8, Cond.instantiable RX8 3, Cond.initialized RX8, Cond.fieldLink RX10 48 "ChairLeague" "line" "LChairLeague$Signs;", Cond.classLink RX10 52 RX6, Cond.instantiable RX6 3, Cond.initialized RX6, Cond.fieldLink RX10 55 "ChairLeague" "reasons" "LChairLeague$Reasons;", Cond.instanceMethod yX9_init, Cond.code yX9_init cX9_init 1 none, Cond.methodLink RX9 3 objectInit, Cond.classLink RX9 9 RX2, Cond.instantiable RX2 8, Cond.initialized RX2, Cond.fieldLink RX9 12 "ChairLeague$State" "chairs" "LChairLeague$Chairs;", Cond.classLink RX9 18 RX4, Cond.instantiable RX4 8, Cond.initialized RX4, Cond.fieldLink RX9 21 "ChairLeague$State" "musicians" "LChairLeague$Musicians;", Cond.classLink RX9 25 RX1]
def wsL_law_r3 : List Cond := [Cond.instantiable RX1 7, Cond.initialized RX1, Cond.fieldLink RX9 28 "ChairLeague$State" "books" "LChairLeague$Books;", Cond.instanceMethod yX2_init, Cond.code yX2_init cX2_init 1 none, Cond.methodLink RX2 3 objectInit, Cond.classLink RX2 9 RX7, Cond.instantiable RX7 1, Cond.initialized RX7, Cond.fieldLink RX2 14 "ChairLeague$Chairs" "section" "LChairLeague$Row;", Cond.fieldLink RX2 20 "ChairLeague$Chairs" "need" "LChairLeague$Row;", Cond.fieldLink RX2 23 "ChairLeague$Chairs" "cushion" "LChairLeague$Row;", Cond.fieldLink RX2 26 "ChairLeague$Chairs" "stand" "LChairLeague$Row;", Cond.fieldLink RX2 29 "ChairLeague$Chairs" "tier" "LChairLeague$Row;", Cond.fieldLink RX2 32 "ChairLeague$Chairs" "marks" "LChairLeague$Row;", Cond.fieldLink RX2 35 "ChairLeague$Chairs" "sitter" "LChairLeague$Row;", Cond.methodLink RX2 11 yX7_init, Cond.instanceMethod yX7_init, Cond.code yX7_init cX7_init 2 none, Cond.methodLink RX7 1 objectInit, Cond.methodLink RX7 7 Lib.Math.max.name, Cond.static Lib.Math.max.name, Cond.initialized "java/lang/Math", Cond.code Lib.Math.max.name Lib.Math.max.code 2 (some .int)]
def wsL_law_r4 : List Cond := [Cond.arrayClass .int, Cond.fieldLink RX7 13 "ChairLeague$Row" "numbers" "[I", Cond.instanceMethod yX4_init, Cond.code yX4_init cX4_init 1 none, Cond.methodLink RX4 3 objectInit, Cond.classLink RX4 9 RX7, Cond.fieldLink RX4 14 "ChairLeague$Musicians" "section" "LChairLeague$Row;", Cond.fieldLink RX4 20 "ChairLeague$Musicians" "skill" "LChairLeague$Row;", Cond.fieldLink RX4 23 "ChairLeague$Musicians" "demand" "LChairLeague$Row;", Cond.fieldLink RX4 26 "ChairLeague$Musicians" "coins" "LChairLeague$Row;", Cond.fieldLink RX4 29 "ChairLeague$Musicians" "offer" "LChairLeague$Row;", Cond.fieldLink RX4 32 "ChairLeague$Musicians" "place" "LChairLeague$Row;", Cond.fieldLink RX4 35 "ChairLeague$Musicians" "played" "LChairLeague$Row;", Cond.methodLink RX4 11 yX7_init, Cond.instanceMethod yX1_init, Cond.code yX1_init cX1_init 1 none, Cond.methodLink RX1 3 objectInit, Cond.fieldLink RX1 9 "ChairLeague$Books" "league" "I", Cond.methodLink RX10 21 yX3_init, Cond.instanceMethod yX3_init, Cond.code yX3_init cX3_init 2 none, Cond.methodLink RX3 3 objectInit, Cond.classLink RX3 9 RX9, Cond.fieldLink RX3 11 "ChairLeague$History" "states" "[LChairLeague$State;"]
def wsL_law_r5 : List Cond := [Cond.instanceMethod yX0_init, Cond.code yX0_init cX0_init 1 none, Cond.methodLink RX0 3 objectInit, Cond.classLink RX0 9 RX7, Cond.fieldLink RX0 14 "ChairLeague$Asking" "left" "LChairLeague$Row;", Cond.fieldLink RX0 20 "ChairLeague$Asking" "asked" "LChairLeague$Row;", Cond.fieldLink RX0 23 "ChairLeague$Asking" "sitter" "LChairLeague$Row;", Cond.fieldLink RX0 26 "ChairLeague$Asking" "place" "LChairLeague$Row;", Cond.methodLink RX0 11 yX7_init, Cond.instanceMethod yX5_init, Cond.code yX5_init cX5_init 1 none, Cond.methodLink RX5 3 objectInit, Cond.classLink RX5 9 RX8, Cond.fieldLink RX5 14 "ChairLeague$Orders" "text" "LChairLeague$Signs;", Cond.classLink RX5 20 RX7, Cond.fieldLink RX5 23 "ChairLeague$Orders" "kind" "LChairLeague$Row;", Cond.fieldLink RX5 27 "ChairLeague$Orders" "first" "LChairLeague$Row;", Cond.fieldLink RX5 30 "ChairLeague$Orders" "second" "LChairLeague$Row;", Cond.fieldLink RX5 33 "ChairLeague$Orders" "third" "LChairLeague$Row;", Cond.methodLink RX5 11 yX8_init, Cond.instanceMethod yX8_init, Cond.code yX8_init cX8_init 2 none, Cond.methodLink RX8 3 objectInit, Cond.fieldLink RX8 9 "ChairLeague$Signs" "most" "I"]
def wsL_law_r6 : List Cond := [Cond.classLink RX8 15 RX7, Cond.fieldLink RX8 20 "ChairLeague$Signs" "codes" "LChairLeague$Row;", Cond.methodLink RX8 17 yX7_init, Cond.methodLink RX5 22 yX7_init, Cond.methodLink RX10 45 yX8_init, Cond.instanceMethod yX6_init, Cond.code yX6_init cX6_init 1 none, Cond.methodLink RX6 1 objectInit, Cond.classLink RX6 7 RX7, Cond.fieldLink RX6 14 "ChairLeague$Reasons" "number" "LChairLeague$Row;", Cond.fieldLink RX6 18 "ChairLeague$Reasons" "detail" "LChairLeague$Row;", Cond.methodLink RX6 11 yX7_init, Cond.methodLink RL 24 yX10_chair, Cond.instanceMethod yX10_chair, Cond.selects RX10 yX10_chair yX10_chair, Cond.code yX10_chair cX10_chair 3 (some .int), Cond.methodLink RX10 59 yX3_mark, Cond.instanceMethod yX3_mark, Cond.selects RX3 yX3_mark yX3_mark, Cond.code yX3_mark cX3_mark 3 none, Cond.methodLink RX3 20 yX3_marked, Cond.instanceMethod yX3_marked, Cond.selects RX3 yX3_marked yX3_marked, Cond.code yX3_marked cX3_marked 1 (some (.object "ChairLeague$State"))]
def wsL_law_r7 : List Cond := [Cond.fieldLink RX3 28 "ChairLeague$History" "next" "I", Cond.methodLink RX3 24 yX9_copy, Cond.instanceMethod yX9_copy, Cond.selects RX9 yX9_copy yX9_copy, Cond.code yX9_copy cX9_copy 2 none, Cond.methodLink RX9 119 yX2_copy, Cond.instanceMethod yX2_copy, Cond.selects RX2 yX2_copy yX2_copy, Cond.code yX2_copy cX2_copy 2 none, Cond.fieldLink RX2 38 "ChairLeague$Chairs" "count" "I", Cond.methodLink RX2 61 yX7_copy, Cond.instanceMethod yX7_copy, Cond.selects RX7 yX7_copy yX7_copy, Cond.code yX7_copy cX7_copy 3 none, Cond.methodLink RX7 19 Lib.Math.min.name, Cond.static Lib.Math.min.name, Cond.code Lib.Math.min.name Lib.Math.min.code 2 (some .int), Cond.methodLink RX7 22 arraycopyName, Cond.native arraycopyName, Cond.static arraycopyName, Cond.initialized "java/lang/System", Cond.methodLink RX9 123 yX4_copy, Cond.instanceMethod yX4_copy, Cond.selects RX4 yX4_copy yX4_copy]
def wsL_law_r8 : List Cond := [Cond.code yX4_copy cX4_copy 2 none, Cond.fieldLink RX4 38 "ChairLeague$Musicians" "count" "I", Cond.methodLink RX4 54 yX7_copy, Cond.methodLink RX9 126 yX1_copy, Cond.instanceMethod yX1_copy, Cond.selects RX1 yX1_copy yX1_copy, Cond.code yX1_copy cX1_copy 2 none, Cond.fieldLink RX1 15 "ChairLeague$Books" "halls" "I", Cond.fieldLink RX1 18 "ChairLeague$Books" "spent" "I", Cond.fieldLink RX1 21 "ChairLeague$Books" "lost" "I", Cond.fieldLink RX1 24 "ChairLeague$Books" "concerts" "I", Cond.fieldLink RX1 27 "ChairLeague$Books" "seasons" "I", Cond.fieldLink RX1 30 "ChairLeague$Books" "sold" "I", Cond.methodLink RX10 63 yX10_bringChair, Cond.instanceMethod yX10_bringChair, Cond.selects RX10 yX10_bringChair yX10_bringChair, Cond.code yX10_bringChair cX10_bringChair 3 (some .int), Cond.fieldLink RX10 75 "ChairLeague$State" "chairs" "LChairLeague$Chairs;", Cond.fieldLink RX10 170 "ChairLeague$Chairs" "count" "I", Cond.methodLink RX10 187 yX10_isWithin, Cond.static yX10_isWithin, Cond.code yX10_isWithin cX10_isWithin 3 (some .boolean), Cond.methodLink RX10 317 yX10_refused, Cond.instanceMethod yX10_refused]
def wsL_law_r9 : List Cond := [Cond.selects RX10 yX10_refused yX10_refused, Cond.code yX10_refused cX10_refused 3 (some .int), Cond.methodLink RX10 376 yX6_begin, Cond.instanceMethod yX6_begin, Cond.selects RX6 yX6_begin yX6_begin, Cond.code yX6_begin cX6_begin 3 none, Cond.fieldLink RX6 21 "ChairLeague$Reasons" "count" "I", Cond.methodLink RX6 25 yX7_put, Cond.instanceMethod yX7_put, Cond.selects RX7 yX7_put yX7_put, Cond.code yX7_put cX7_put 3 none, Cond.methodLink RX10 320 yX2_bring, Cond.instanceMethod yX2_bring, Cond.selects RX2 yX2_bring yX2_bring, Cond.code yX2_bring cX2_bring 4 (some .int), Cond.methodLink RX2 42 yX7_put, Cond.methodLink RX10 67 yX10_settled, Cond.instanceMethod yX10_settled, Cond.selects RX10 yX10_settled yX10_settled, Cond.code yX10_settled cX10_settled 2 (some .int), Cond.methodLink RX10 373 yX3_keep, Cond.instanceMethod yX3_keep, Cond.selects RX3 yX3_keep yX3_keep, Cond.code yX3_keep cX3_keep 1 none]
def wsL_law_r10 : List Cond := [Cond.fieldLink RX3 16 "ChairLeague$History" "count" "I", Cond.methodLink RX3 31 Lib.Math.min.name, Cond.methodLink RL 28 yX10_musician, Cond.instanceMethod yX10_musician, Cond.selects RX10 yX10_musician yX10_musician, Cond.code yX10_musician cX10_musician 4 (some .int), Cond.methodLink RX10 71 yX10_bringMusician, Cond.instanceMethod yX10_bringMusician, Cond.selects RX10 yX10_bringMusician yX10_bringMusician, Cond.code yX10_bringMusician cX10_bringMusician 4 (some .int), Cond.fieldLink RX10 118 "ChairLeague$State" "musicians" "LChairLeague$Musicians;", Cond.fieldLink RX10 174 "ChairLeague$Musicians" "count" "I", Cond.methodLink RX10 323 yX4_bring, Cond.instanceMethod yX4_bring, Cond.selects RX4 yX4_bring yX4_bring, Cond.code yX4_bring cX4_bring 5 (some .int), Cond.methodLink RX4 42 yX7_put, Cond.methodLink RL 38 yX10_season, Cond.instanceMethod yX10_season, Cond.selects RX10 yX10_season yX10_season, Cond.code yX10_season cX10_season 1 (some .int), Cond.methodLink RX10 157 yX10_beginSeason, Cond.instanceMethod yX10_beginSeason, Cond.selects RX10 yX10_beginSeason yX10_beginSeason]
def wsL_law_r11 : List Cond := [Cond.code yX10_beginSeason cX10_beginSeason 3 (some .int), Cond.fieldLink RX10 257 "ChairLeague$State" "books" "LChairLeague$Books;", Cond.fieldLink RX10 287 "ChairLeague$Books" "seasons" "I", Cond.methodLink RX10 341 yX9_leave, Cond.instanceMethod yX9_leave, Cond.selects RX9 yX9_leave yX9_leave, Cond.code yX9_leave cX9_leave 2 none, Cond.fieldLink RX9 68 "ChairLeague$Chairs" "sitter" "LChairLeague$Row;", Cond.fieldLink RX9 75 "ChairLeague$Musicians" "place" "LChairLeague$Row;", Cond.fieldLink RX9 78 "ChairLeague$Musicians" "offer" "LChairLeague$Row;", Cond.methodLink RX9 36 yX7_at, Cond.instanceMethod yX7_at, Cond.selects RX7 yX7_at yX7_at, Cond.code yX7_at cX7_at 2 (some .int), Cond.methodLink RX9 71 yX7_put, Cond.methodLink RX10 161 yX0_byTurns, Cond.instanceMethod yX0_byTurns, Cond.selects RX0 yX0_byTurns yX0_byTurns, Cond.code yX0_byTurns cX0_byTurns 6 none, Cond.fieldLink RX0 51 "ChairLeague$State" "chairs" "LChairLeague$Chairs;", Cond.methodLink RX0 33 yX0_begin, Cond.instanceMethod yX0_begin, Cond.selects RX0 yX0_begin yX0_begin, Cond.code yX0_begin cX0_begin 5 none]
def wsL_law_r12 : List Cond := [Cond.fieldLink RX0 81 "ChairLeague$Chairs" "count" "I", Cond.fieldLink RX0 68 "ChairLeague$State" "musicians" "LChairLeague$Musicians;", Cond.fieldLink RX0 72 "ChairLeague$Musicians" "count" "I", Cond.methodLink RX0 82 yX9_fitOf, Cond.instanceMethod yX9_fitOf, Cond.selects RX9 yX9_fitOf yX9_fitOf, Cond.code yX9_fitOf cX9_fitOf 5 (some .int), Cond.fieldLink RX9 32 "ChairLeague$Chairs" "need" "LChairLeague$Row;", Cond.fieldLink RX9 42 "ChairLeague$Musicians" "skill" "LChairLeague$Row;", Cond.methodLink RX9 45 Lib.Math.abs.name, Cond.static Lib.Math.abs.name, Cond.code Lib.Math.abs.name Lib.Math.abs.code 1 (some .int), Cond.fieldLink RX9 50 "ChairLeague$Chairs" "section" "LChairLeague$Row;", Cond.fieldLink RX9 53 "ChairLeague$Musicians" "section" "LChairLeague$Row;", Cond.methodLink RX0 86 yX2_isFallen, Cond.instanceMethod yX2_isFallen, Cond.selects RX2 yX2_isFallen yX2_isFallen, Cond.code yX2_isFallen cX2_isFallen 2 (some .boolean), Cond.methodLink RX2 46 yX7_at, Cond.methodLink RX0 90 yX7_put, Cond.methodLink RX0 37 yX0_lowestThatCanAsk, Cond.instanceMethod yX0_lowestThatCanAsk, Cond.selects RX0 yX0_lowestThatCanAsk yX0_lowestThatCanAsk, Cond.code yX0_lowestThatCanAsk cX0_lowestThatCanAsk 3 (some .int)]
def wsL_law_r13 : List Cond := [Cond.methodLink RX0 93 yX0_canAsk, Cond.instanceMethod yX0_canAsk, Cond.selects RX0 yX0_canAsk yX0_canAsk, Cond.code yX0_canAsk cX0_canAsk 2 (some .boolean), Cond.methodLink RX0 29 yX7_at, Cond.methodLink RX0 41 yX0_askNext, Cond.instanceMethod yX0_askNext, Cond.selects RX0 yX0_askNext yX0_askNext, Cond.code yX0_askNext cX0_askNext 7 (some .int), Cond.methodLink RX0 45 yX9_bears, Cond.instanceMethod yX9_bears, Cond.selects RX9 yX9_bears yX9_bears, Cond.code yX9_bears cX9_bears 3 (some .boolean), Cond.fieldLink RX9 65 "ChairLeague$Musicians" "demand" "LChairLeague$Row;", Cond.methodLink RX9 58 yX2_isFallen, Cond.methodLink RX9 62 yX2_comfort, Cond.instanceMethod yX2_comfort, Cond.selects RX2 yX2_comfort yX2_comfort, Cond.code yX2_comfort cX2_comfort 2 (some .int), Cond.methodLink RX0 55 yX2_isRather, Cond.instanceMethod yX2_isRather, Cond.selects RX2 yX2_isRather yX2_isRather, Cond.code yX2_isRather cX2_isRather 4 (some .boolean), Cond.methodLink RX2 54 yX2_comfort]
def wsL_law_r14 : List Cond := [Cond.methodLink RX0 60 yX0_move, Cond.instanceMethod yX0_move, Cond.selects RX0 yX0_move yX0_move, Cond.code yX0_move cX0_move 3 none, Cond.methodLink RX10 164 yX0_sitterOf, Cond.instanceMethod yX0_sitterOf, Cond.selects RX0 yX0_sitterOf yX0_sitterOf, Cond.code yX0_sitterOf cX0_sitterOf 2 (some .int), Cond.methodLink RX10 337 yX9_sit, Cond.instanceMethod yX9_sit, Cond.selects RX9 yX9_sit yX9_sit, Cond.code yX9_sit cX9_sit 3 none, Cond.methodLink RX10 261 yX4_sitting, Cond.instanceMethod yX4_sitting, Cond.selects RX4 yX4_sitting yX4_sitting, Cond.code yX4_sitting cX4_sitting 3 (some .int), Cond.methodLink RX4 50 yX4_sits, Cond.instanceMethod yX4_sits, Cond.selects RX4 yX4_sits yX4_sits, Cond.code yX4_sits cX4_sits 2 (some .boolean), Cond.methodLink RX4 46 yX7_at, Cond.methodLink RL 41 yX10_bid, Cond.instanceMethod yX10_bid, Cond.selects RX10 yX10_bid yX10_bid]
def wsL_law_r15 : List Cond := [Cond.code yX10_bid cX10_bid 3 (some .int), Cond.methodLink RX10 178 yX10_takeBid, Cond.instanceMethod yX10_takeBid, Cond.selects RX10 yX10_takeBid yX10_takeBid, Cond.code yX10_takeBid cX10_takeBid 4 (some .int), Cond.fieldLink RX10 132 "ChairLeague$Musicians" "coins" "LChairLeague$Row;", Cond.fieldLink RX10 135 "ChairLeague$Musicians" "offer" "LChairLeague$Row;", Cond.methodLink RX10 122 yX4_has, Cond.instanceMethod yX4_has, Cond.selects RX4 yX4_has yX4_has, Cond.code yX4_has cX4_has 2 (some .boolean), Cond.methodLink RX10 328 yX4_sits, Cond.methodLink RX10 89 yX7_at, Cond.methodLink RX10 344 yX7_put, Cond.methodLink RL 116 yL_digest, Cond.static yL_digest, Cond.initialized RL, Cond.code yL_digest cL_digest 5 (some .long), Cond.constantLong RL 78 (7), Cond.constantLong RL 80 (31), Cond.methodLink RL 82 yX10_account, Cond.instanceMethod yX10_account, Cond.selects RX10 yX10_account yX10_account, Cond.code yX10_account cX10_account 3 (some .int)]
def wsL_law_r16 : List Cond := [Cond.fieldLink RX10 270 "ChairLeague$Books" "league" "I", Cond.fieldLink RX10 275 "ChairLeague$Books" "halls" "I", Cond.fieldLink RX10 278 "ChairLeague$Books" "spent" "I", Cond.fieldLink RX10 281 "ChairLeague$Books" "lost" "I", Cond.fieldLink RX10 284 "ChairLeague$Books" "concerts" "I", Cond.fieldLink RX10 290 "ChairLeague$Books" "sold" "I", Cond.fieldLink RX10 209 "ChairLeague$Orders" "text" "LChairLeague$Signs;", Cond.methodLink RX10 264 yX2_fallen, Cond.instanceMethod yX2_fallen, Cond.selects RX2 yX2_fallen yX2_fallen, Cond.code yX2_fallen cX2_fallen 3 (some .int), Cond.methodLink RX2 50 yX2_isFallen, Cond.methodLink RX10 267 yX4_allCoins, Cond.instanceMethod yX4_allCoins, Cond.selects RX4 yX4_allCoins yX4_allCoins, Cond.code yX4_allCoins cX4_allCoins 3 (some .int), Cond.methodLink RX10 212 yX8_length, Cond.instanceMethod yX8_length, Cond.selects RX8 yX8_length yX8_length, Cond.code yX8_length cX8_length 1 (some .int), Cond.fieldLink RX8 24 "ChairLeague$Signs" "length" "I", Cond.methodLink RX10 293 yX3_count, Cond.instanceMethod yX3_count, Cond.selects RX3 yX3_count yX3_count]
def wsL_law_r17 : List Cond := [Cond.code yX3_count cX3_count 1 (some .int), Cond.methodLink RL 85 yX10_chairOf, Cond.instanceMethod yX10_chairOf, Cond.selects RX10 yX10_chairOf yX10_chairOf, Cond.code yX10_chairOf cX10_chairOf 4 (some .int), Cond.fieldLink RX10 85 "ChairLeague$Chairs" "section" "LChairLeague$Row;", Cond.fieldLink RX10 94 "ChairLeague$Chairs" "need" "LChairLeague$Row;", Cond.fieldLink RX10 97 "ChairLeague$Chairs" "cushion" "LChairLeague$Row;", Cond.fieldLink RX10 100 "ChairLeague$Chairs" "stand" "LChairLeague$Row;", Cond.fieldLink RX10 103 "ChairLeague$Chairs" "tier" "LChairLeague$Row;", Cond.fieldLink RX10 109 "ChairLeague$Chairs" "marks" "LChairLeague$Row;", Cond.fieldLink RX10 112 "ChairLeague$Chairs" "sitter" "LChairLeague$Row;", Cond.methodLink RX10 79 yX2_has, Cond.instanceMethod yX2_has, Cond.selects RX2 yX2_has yX2_has, Cond.code yX2_has cX2_has 2 (some .boolean), Cond.methodLink RX10 106 yX2_comfort, Cond.methodLink RX10 115 yX10_orNothing, Cond.static yX10_orNothing, Cond.code yX10_orNothing cX10_orNothing 1 (some .int), Cond.methodLink RL 88 yX10_musicianOf, Cond.instanceMethod yX10_musicianOf, Cond.selects RX10 yX10_musicianOf yX10_musicianOf, Cond.code yX10_musicianOf cX10_musicianOf 4 (some .int)]
def wsL_law_r18 : List Cond := [Cond.fieldLink RX10 125 "ChairLeague$Musicians" "section" "LChairLeague$Row;", Cond.fieldLink RX10 126 "ChairLeague$Musicians" "skill" "LChairLeague$Row;", Cond.fieldLink RX10 129 "ChairLeague$Musicians" "demand" "LChairLeague$Row;", Cond.fieldLink RX10 138 "ChairLeague$Musicians" "place" "LChairLeague$Row;", Cond.fieldLink RX10 141 "ChairLeague$Musicians" "played" "LChairLeague$Row;", Cond.methodLink RL 163 yL_cell, Cond.static yL_cell, Cond.code yL_cell cL_cell 2 (some .int), Cond.constant RL 9 (65535), Cond.methodLink RL 167 yL_act, Cond.static yL_act, Cond.code yL_act cL_act 5 (some .int), Cond.methodLink RL 32 yX10_seat, Cond.instanceMethod yX10_seat, Cond.selects RX10 yX10_seat yX10_seat, Cond.code yX10_seat cX10_seat 3 (some .int), Cond.methodLink RX10 151 yX10_seatMusician, Cond.instanceMethod yX10_seatMusician, Cond.selects RX10 yX10_seatMusician yX10_seatMusician, Cond.code yX10_seatMusician cX10_seatMusician 4 (some .int), Cond.methodLink RX10 144 yX10_areThere, Cond.instanceMethod yX10_areThere, Cond.selects RX10 yX10_areThere yX10_areThere, Cond.code yX10_areThere cX10_areThere 3 (some .boolean)]
def wsL_law_r19 : List Cond := [Cond.methodLink RX10 238 yX2_isFallen, Cond.methodLink RX10 325 yX10_refusedSeat, Cond.instanceMethod yX10_refusedSeat, Cond.selects RX10 yX10_refusedSeat yX10_refusedSeat, Cond.code yX10_refusedSeat cX10_refusedSeat 4 (some .int), Cond.methodLink RX10 379 yX6_putAhead, Cond.instanceMethod yX6_putAhead, Cond.selects RX6 yX6_putAhead yX6_putAhead, Cond.code yX6_putAhead cX6_putAhead 4 none, Cond.methodLink RX6 33 Lib.Math.min.name, Cond.methodLink RX6 29 yX7_at, Cond.methodLink RX10 241 yX2_isTaken, Cond.instanceMethod yX2_isTaken, Cond.selects RX2 yX2_isTaken yX2_isTaken, Cond.code yX2_isTaken cX2_isTaken 2 (some .boolean), Cond.methodLink RX10 331 yX9_wants, Cond.instanceMethod yX9_wants, Cond.selects RX9 yX9_wants yX9_wants, Cond.code yX9_wants cX9_wants 3 (some .boolean), Cond.methodLink RX9 54 yX9_fitOf, Cond.methodLink RX10 148 yX9_fitOf, Cond.methodLink RX10 334 yX9_bears, Cond.methodLink RL 35 yX10_rise, Cond.instanceMethod yX10_rise]
def wsL_law_r20 : List Cond := [Cond.selects RX10 yX10_rise yX10_rise, Cond.code yX10_rise cX10_rise 2 (some .int), Cond.methodLink RX10 154 yX10_letRise, Cond.instanceMethod yX10_letRise, Cond.selects RX10 yX10_letRise yX10_letRise, Cond.code yX10_letRise cX10_letRise 3 (some .int), Cond.methodLink RL 44 yX10_sell, Cond.instanceMethod yX10_sell, Cond.selects RX10 yX10_sell yX10_sell, Cond.code yX10_sell cX10_sell 2 (some .int), Cond.methodLink RX10 181 yX10_sellCushion, Cond.instanceMethod yX10_sellCushion, Cond.selects RX10 yX10_sellCushion yX10_sellCushion, Cond.code yX10_sellCushion cX10_sellCushion 6 (some .int), Cond.methodLink RX10 346 yX4_highestBidder, Cond.instanceMethod yX4_highestBidder, Cond.selects RX4 yX4_highestBidder yX4_highestBidder, Cond.code yX4_highestBidder cX4_highestBidder 5 (some .int), Cond.methodLink RX10 349 yX7_more, Cond.instanceMethod yX7_more, Cond.selects RX7 yX7_more yX7_more, Cond.code yX7_more cX7_more 3 none, Cond.methodLink RX10 352 yX4_forgetBids, Cond.instanceMethod yX4_forgetBids]
def wsL_law_r21 : List Cond := [Cond.selects RX4 yX4_forgetBids yX4_forgetBids, Cond.code yX4_forgetBids cX4_forgetBids 2 none, Cond.methodLink RL 47 yX10_concert, Cond.instanceMethod yX10_concert, Cond.selects RX10 yX10_concert yX10_concert, Cond.code yX10_concert cX10_concert 2 (some .int), Cond.methodLink RX10 184 yX10_giveConcert, Cond.instanceMethod yX10_giveConcert, Cond.selects RX10 yX10_giveConcert yX10_giveConcert, Cond.code yX10_giveConcert cX10_giveConcert 4 (some .int), Cond.methodLink RX10 355 yX9_play, Cond.instanceMethod yX9_play, Cond.selects RX9 yX9_play yX9_play, Cond.code yX9_play cX9_play 6 (some .int), Cond.fieldLink RX9 81 "ChairLeague$Musicians" "coins" "LChairLeague$Row;", Cond.methodLink RX9 84 Lib.Math.min.name, Cond.fieldLink RX9 90 "ChairLeague$Musicians" "played" "LChairLeague$Row;", Cond.fieldLink RX9 93 "ChairLeague$Books" "halls" "I", Cond.fieldLink RX9 97 "ChairLeague$Books" "lost" "I", Cond.fieldLink RX9 100 "ChairLeague$Chairs" "marks" "LChairLeague$Row;", Cond.methodLink RX9 87 yX7_more, Cond.methodLink RX10 358 yX9_wear, Cond.instanceMethod yX9_wear, Cond.selects RX9 yX9_wear yX9_wear]
def wsL_law_r22 : List Cond := [Cond.code yX9_wear cX9_wear 4 none, Cond.fieldLink RX9 106 "ChairLeague$Chairs" "stand" "LChairLeague$Row;", Cond.methodLink RX9 112 Lib.Math.max.name, Cond.methodLink RX9 109 yX9_wearOf, Cond.instanceMethod yX9_wearOf, Cond.selects RX9 yX9_wearOf yX9_wearOf, Cond.code yX9_wearOf cX9_wearOf 3 (some .int), Cond.methodLink RX9 103 yX2_isTaken, Cond.methodLink RX9 115 yX9_leave, Cond.methodLink RL 50 yX10_raise, Cond.instanceMethod yX10_raise, Cond.selects RX10 yX10_raise yX10_raise, Cond.code yX10_raise cX10_raise 2 (some .int), Cond.methodLink RX10 199 yX10_putUp, Cond.instanceMethod yX10_putUp, Cond.selects RX10 yX10_putUp yX10_putUp, Cond.code yX10_putUp cX10_putUp 2 (some .int), Cond.methodLink RL 53 yX10_promote, Cond.instanceMethod yX10_promote, Cond.selects RX10 yX10_promote yX10_promote, Cond.code yX10_promote cX10_promote 2 (some .int), Cond.methodLink RX10 202 yX10_moveUp, Cond.instanceMethod yX10_moveUp, Cond.selects RX10 yX10_moveUp yX10_moveUp]
def wsL_law_r23 : List Cond := [Cond.code yX10_moveUp cX10_moveUp 5 (some .int), Cond.methodLink RL 62 yL_write, Cond.static yL_write, Cond.code yL_write cL_write 3 (some (.object "ChairLeague")), Cond.methodLink RL 10 yJ0_length_8abf5, Cond.instanceMethod yJ0_length_8abf5, Cond.selects RJ0 yJ0_length_8abf5 yJ0_length_8abf5, Cond.initialized RJ0, Cond.code yJ0_length_8abf5 cJ0_length_8abf5 1 (some .int), Cond.fieldLink RJ0 9 "java/lang/String" "value" "[B", Cond.methodLink RJ0 335 yJ0_coder_7d493, Cond.instanceMethod yJ0_coder_7d493, Cond.selects RJ0 yJ0_coder_7d493 yJ0_coder_7d493, Cond.code yJ0_coder_7d493 cJ0_coder_7d493 1 (some .byte), Cond.fieldLink RJ0 38 "java/lang/String" "COMPACT_STRINGS" "Z", Cond.fieldLink RJ0 15 "java/lang/String" "coder" "B", Cond.methodLink RL 16 yJ0_charAt_5068e, Cond.instanceMethod yJ0_charAt_5068e, Cond.selects RJ0 yJ0_charAt_5068e yJ0_charAt_5068e, Cond.code yJ0_charAt_5068e cJ0_charAt_5068e 2 (some .char), Cond.methodLink RJ0 492 yJ0_isLatin1_aae02, Cond.instanceMethod yJ0_isLatin1_aae02, Cond.selects RJ0 yJ0_isLatin1_aae02 yJ0_isLatin1_aae02, Cond.code yJ0_isLatin1_aae02 cJ0_isLatin1_aae02 1 (some .boolean)]
def wsL_law_r24 : List Cond := [Cond.methodLink RJ0 495 yJ1_charAt_3b067, Cond.static yJ1_charAt_3b067, Cond.initialized RJ1, Cond.code yJ1_charAt_3b067 cJ1_charAt_3b067 2 (some .char), Cond.methodLink RJ1 9 yJ0_checkIndex_df160, Cond.static yJ0_checkIndex_df160, Cond.code yJ0_checkIndex_df160 cJ0_checkIndex_df160 2 none, Cond.fieldLink RJ0 1053 "jdk/internal/util/Preconditions" "SIOOBE_FORMATTER" "Ljava/util/function/BiFunction;", Cond.methodLink RJ0 1059 yJ3_checkIndex_8e157, Cond.static yJ3_checkIndex_8e157, Cond.initialized RJ3, Cond.code yJ3_checkIndex_8e157 cJ3_checkIndex_8e157 3 (some .int), Cond.methodLink RJ0 498 yJ2_charAt_3b067, Cond.static yJ2_charAt_3b067, Cond.initialized RJ2, Cond.code yJ2_charAt_3b067 cJ2_charAt_3b067 2 (some .char), Cond.methodLink RJ2 67 yJ2_checkIndex_2214a, Cond.static yJ2_checkIndex_2214a, Cond.code yJ2_checkIndex_2214a cJ2_checkIndex_2214a 2 none, Cond.methodLink RJ2 48 yJ2_length_9d52b, Cond.static yJ2_length_9d52b, Cond.code yJ2_length_9d52b cJ2_length_9d52b 1 (some .int), Cond.methodLink RJ2 414 yJ0_checkIndex_df160, Cond.methodLink RJ2 71 yJ2_getChar_3b067]
def wsL_law_r25 : List Cond := [Cond.static yJ2_getChar_3b067, Cond.code yJ2_getChar_3b067 cJ2_getChar_3b067 2 (some .char), Cond.fieldLink RJ2 44 "java/lang/StringUTF16" "$assertionsDisabled" "Z", Cond.fieldLink RJ2 59 "java/lang/StringUTF16" "HI_BYTE_SHIFT" "I", Cond.fieldLink RJ2 63 "java/lang/StringUTF16" "LO_BYTE_SHIFT" "I", Cond.methodLink RL 20 yX10_append, Cond.instanceMethod yX10_append, Cond.selects RX10 yX10_append yX10_append, Cond.code yX10_append cX10_append 2 (some .int), Cond.methodLink RX10 215 yX8_put, Cond.instanceMethod yX8_put, Cond.selects RX8 yX8_put yX8_put, Cond.code yX8_put cX8_put 2 none, Cond.methodLink RX8 31 yX7_put, Cond.methodLink RL 66 yX10_run, Cond.instanceMethod yX10_run, Cond.selects RX10 yX10_run yX10_run, Cond.code yX10_run cX10_run 4 (some .int), Cond.methodLink RX10 218 yX5_read, Cond.instanceMethod yX5_read, Cond.selects RX5 yX5_read yX5_read, Cond.code yX5_read cX5_read 2 (some .int), Cond.fieldLink RX5 40 "ChairLeague$Orders" "place" "I", Cond.fieldLink RX5 36 "ChairLeague$Orders" "count" "I"]
def wsL_law_r26 : List Cond := [Cond.methodLink RX5 43 yX8_at, Cond.instanceMethod yX8_at, Cond.selects RX8 yX8_at yX8_at, Cond.code yX8_at cX8_at 2 (some .int), Cond.methodLink RX8 27 yX7_at, Cond.methodLink RX5 47 yX5_readOrder, Cond.instanceMethod yX5_readOrder, Cond.selects RX5 yX5_readOrder yX5_readOrder, Cond.code yX5_readOrder cX5_readOrder 2 (some .boolean), Cond.methodLink RX5 58 yX7_put, Cond.methodLink RX5 55 yX5_readSign, Cond.instanceMethod yX5_readSign, Cond.selects RX5 yX5_readSign yX5_readSign, Cond.code yX5_readSign cX5_readSign 2 (some .boolean), Cond.methodLink RX5 62 yX5_readDigit, Cond.instanceMethod yX5_readDigit, Cond.selects RX5 yX5_readDigit yX5_readDigit, Cond.code yX5_readDigit cX5_readDigit 2 (some .boolean), Cond.methodLink RX5 70 yX5_isDigit, Cond.static yX5_isDigit, Cond.code yX5_isDigit cX5_isDigit 1 (some .boolean), Cond.methodLink RX5 66 yX5_readCoins, Cond.instanceMethod yX5_readCoins, Cond.selects RX5 yX5_readCoins yX5_readCoins]
def wsL_law_r27 : List Cond := [Cond.code yX5_readCoins cX5_readCoins 1 (some .boolean), Cond.methodLink RX5 73 yX7_at, Cond.methodLink RX5 51 yX8_length, Cond.methodLink RX10 221 yX8_clear, Cond.instanceMethod yX8_clear, Cond.selects RX8 yX8_clear yX8_clear, Cond.code yX8_clear cX8_clear 1 none, Cond.methodLink RX10 224 yX5_count, Cond.instanceMethod yX5_count, Cond.selects RX5 yX5_count yX5_count, Cond.code yX5_count cX5_count 1 (some .int), Cond.methodLink RX10 226 yX10_carryOut, Cond.instanceMethod yX10_carryOut, Cond.selects RX10 yX10_carryOut yX10_carryOut, Cond.code yX10_carryOut cX10_carryOut 4 (some .int), Cond.fieldLink RX10 361 "ChairLeague$Orders" "first" "LChairLeague$Row;", Cond.fieldLink RX10 364 "ChairLeague$Orders" "second" "LChairLeague$Row;", Cond.fieldLink RX10 367 "ChairLeague$Orders" "kind" "LChairLeague$Row;", Cond.fieldLink RX10 370 "ChairLeague$Orders" "third" "LChairLeague$Row;", Cond.methodLink RX10 229 yX3_bringBack, Cond.instanceMethod yX3_bringBack, Cond.selects RX3 yX3_bringBack yX3_bringBack, Cond.code yX3_bringBack cX3_bringBack 3 none, Cond.methodLink RX10 232 yX10_refusedOrder]
def wsL_law_r28 : List Cond := [Cond.instanceMethod yX10_refusedOrder, Cond.selects RX10 yX10_refusedOrder yX10_refusedOrder, Cond.code yX10_refusedOrder cX10_refusedOrder 3 (some .int), Cond.methodLink RL 69 yX10_save, Cond.instanceMethod yX10_save, Cond.selects RX10 yX10_save yX10_save, Cond.code yX10_save cX10_save 1 (some .int), Cond.fieldLink RX10 310 "ChairLeague" "isSaved" "Z", Cond.methodLink RX10 307 yX9_copy, Cond.methodLink RL 72 yX10_restore, Cond.instanceMethod yX10_restore, Cond.selects RX10 yX10_restore yX10_restore, Cond.code yX10_restore cX10_restore 1 (some .int), Cond.methodLink RX10 314 yX3_forget, Cond.instanceMethod yX3_forget, Cond.selects RX3 yX3_forget yX3_forget, Cond.code yX3_forget cX3_forget 1 none, Cond.methodLink RL 75 yX10_undo, Cond.instanceMethod yX10_undo, Cond.selects RX10 yX10_undo yX10_undo, Cond.code yX10_undo cX10_undo 1 (some .int), Cond.methodLink RX10 304 yX3_stepBack, Cond.instanceMethod yX3_stepBack, Cond.selects RX3 yX3_stepBack yX3_stepBack]
def wsL_law_r29 : List Cond := [Cond.code yX3_stepBack cX3_stepBack 1 none, Cond.methodLink RX3 37 Lib.Math.max.name, Cond.methodLink RL 171 yL_isFit, Cond.static yL_isFit, Cond.code yL_isFit cL_isFit 1 (some .boolean), Cond.methodLink RL 129 yL_areSeats, Cond.static yL_areSeats, Cond.code yL_areSeats cL_areSeats 13 (some .boolean), Cond.methodLink RL 100 Lib.Math.abs.name, Cond.methodLink RL 91 yX10_fit, Cond.instanceMethod yX10_fit, Cond.selects RX10 yX10_fit yX10_fit, Cond.code yX10_fit cX10_fit 3 (some .int), Cond.methodLink RL 94 yX10_hall, Cond.instanceMethod yX10_hall, Cond.selects RX10 yX10_hall yX10_hall, Cond.code yX10_hall cX10_hall 4 (some .int), Cond.methodLink RL 97 yX10_tell, Cond.instanceMethod yX10_tell, Cond.selects RX10 yX10_tell yX10_tell, Cond.code yX10_tell cX10_tell 4 (some .int), Cond.methodLink RX10 235 yX8_putNumber, Cond.instanceMethod yX8_putNumber, Cond.selects RX8 yX8_putNumber yX8_putNumber]
def wsL_law_r30 : List Cond := [Cond.code yX8_putNumber cX8_putNumber 2 none, Cond.methodLink RX8 35 yX8_put, Cond.methodLink RL 105 yX10_isBalanced, Cond.instanceMethod yX10_isBalanced, Cond.selects RX10 yX10_isBalanced yX10_isBalanced, Cond.code yX10_isBalanced cX10_isBalanced 1 (some .int), Cond.methodLink RX10 294 yX10_areCoinsThere, Cond.instanceMethod yX10_areCoinsThere, Cond.selects RX10 yX10_areCoinsThere yX10_areCoinsThere, Cond.code yX10_areCoinsThere cX10_areCoinsThere 3 (some .boolean), Cond.methodLink RX10 298 yX10_areSeatsPaired, Cond.instanceMethod yX10_areSeatsPaired, Cond.selects RX10 yX10_areSeatsPaired yX10_areSeatsPaired, Cond.code yX10_areSeatsPaired cX10_areSeatsPaired 3 (some .boolean), Cond.methodLink RX10 301 yX10_areWaysAlike, Cond.instanceMethod yX10_areWaysAlike, Cond.selects RX10 yX10_areWaysAlike yX10_areWaysAlike, Cond.code yX10_areWaysAlike cX10_areWaysAlike 2 (some .boolean), Cond.methodLink RX10 167 yX0_byRounds, Cond.instanceMethod yX0_byRounds, Cond.selects RX0 yX0_byRounds yX0_byRounds, Cond.code yX0_byRounds cX0_byRounds 5 none, Cond.methodLink RX0 64 yX0_askAtOnce, Cond.instanceMethod yX0_askAtOnce]
def wsL_law_r31 : List Cond := [Cond.selects RX0 yX0_askAtOnce yX0_askAtOnce, Cond.code yX0_askAtOnce cX0_askAtOnce 5 (some .boolean), Cond.methodLink RX0 78 yX0_bestOfAsking, Cond.instanceMethod yX0_bestOfAsking, Cond.selects RX0 yX0_bestOfAsking yX0_bestOfAsking, Cond.code yX0_bestOfAsking cX0_bestOfAsking 5 (some .int), Cond.methodLink RL 108 yX10_meanFit, Cond.instanceMethod yX10_meanFit, Cond.selects RX10 yX10_meanFit yX10_meanFit, Cond.code yX10_meanFit cX10_meanFit 4 (some .double), Cond.methodLink RL 112 yX10_fallenShare, Cond.instanceMethod yX10_fallenShare, Cond.selects RX10 yX10_fallenShare yX10_fallenShare, Cond.code yX10_fallenShare cX10_fallenShare 2 (some .float), Cond.methodLink RL 149 yL_areOrders, Cond.static yL_areOrders, Cond.code yL_areOrders cL_areOrders 9 (some .boolean), Cond.methodLink RL 143 yX10_ranked, Cond.instanceMethod yX10_ranked, Cond.selects RX10 yX10_ranked yX10_ranked, Cond.code yX10_ranked cX10_ranked 5 (some .int), Cond.methodLink RX10 205 yX2_isAhead, Cond.instanceMethod yX2_isAhead, Cond.selects RX2 yX2_isAhead yX2_isAhead]
def wsL_law_r32 : List Cond := [Cond.code yX2_isAhead cX2_isAhead 4 (some .boolean), Cond.methodLink RX2 57 yX2_isRather, Cond.methodLink RL 146 yX10_richest, Cond.instanceMethod yX10_richest, Cond.selects RX10 yX10_richest yX10_richest, Cond.code yX10_richest cX10_richest 5 (some .int), Cond.methodLink RX10 208 yX4_isAhead, Cond.instanceMethod yX4_isAhead, Cond.selects RX4 yX4_isAhead yX4_isAhead, Cond.code yX4_isAhead cX4_isAhead 4 (some .boolean), Cond.methodLink RL 152 yL_isSeason, Cond.static yL_isSeason, Cond.code yL_isSeason cL_isSeason 8 (some .boolean), Cond.methodLink RL 120 yX10_would, Cond.instanceMethod yX10_would, Cond.selects RX10 yX10_would yX10_would, Cond.code yX10_would cX10_would 2 (some .int), Cond.methodLink RL 123 yX10_wouldAgain, Cond.instanceMethod yX10_wouldAgain, Cond.selects RX10 yX10_wouldAgain yX10_wouldAgain, Cond.code yX10_wouldAgain cX10_wouldAgain 2 (some .int), Cond.methodLink RL 126 yX10_restless, Cond.instanceMethod yX10_restless, Cond.selects RX10 yX10_restless yX10_restless]
def wsL_law_r33 : List Cond := [Cond.code yX10_restless cX10_restless 4 (some .int), Cond.methodLink RX10 175 yX10_areRestless, Cond.instanceMethod yX10_areRestless, Cond.selects RX10 yX10_areRestless yX10_areRestless, Cond.code yX10_areRestless cX10_areRestless 5 (some .boolean), Cond.methodLink RX10 382 yX9_isRatherHad, Cond.instanceMethod yX9_isRatherHad, Cond.selects RX9 yX9_isRatherHad yX9_isRatherHad, Cond.code yX9_isRatherHad cX9_isRatherHad 5 (some .boolean), Cond.methodLink RX10 385 yX2_isRather, Cond.methodLink RL 155 yL_isConcert, Cond.static yL_isConcert, Cond.code yL_isConcert cL_isConcert 13 (some .boolean), Cond.methodLink RL 133 yX10_lasts, Cond.instanceMethod yX10_lasts, Cond.selects RX10 yX10_lasts yX10_lasts, Cond.code yX10_lasts cX10_lasts 6 (some .int), Cond.methodLink RX10 194 Lib.Math.min.name, Cond.methodLink RX10 191 yX9_wearOf, Cond.methodLink RL 136 yX10_reason, Cond.instanceMethod yX10_reason, Cond.selects RX10 yX10_reason yX10_reason, Cond.code yX10_reason cX10_reason 3 (some .int), Cond.fieldLink RX10 251 "ChairLeague$Reasons" "detail" "LChairLeague$Row;"]
def wsL_law_r34 : List Cond := [Cond.fieldLink RX10 254 "ChairLeague$Reasons" "number" "LChairLeague$Row;", Cond.methodLink RX10 248 yX6_stands, Cond.instanceMethod yX6_stands, Cond.selects RX6 yX6_stands yX6_stands, Cond.code yX6_stands cX6_stands 2 (some .boolean), Cond.methodLink RL 159 yL_isSale, Cond.static yL_isSale, Cond.code yL_isSale cL_isSale 10 (some .boolean), Cond.methodLink RL 140 Lib.Math.max.name]
def wsL_law : List Cond := (wsL_law_r1 ++ (wsL_law_r2 ++ (wsL_law_r3 ++ (wsL_law_r4 ++ (wsL_law_r5 ++ (wsL_law_r6 ++ (wsL_law_r7 ++ (wsL_law_r8 ++ (wsL_law_r9 ++ (wsL_law_r10 ++ (wsL_law_r11 ++ (wsL_law_r12 ++ (wsL_law_r13 ++ (wsL_law_r14 ++ (wsL_law_r15 ++ (wsL_law_r16 ++ (wsL_law_r17 ++ (wsL_law_r18 ++ (wsL_law_r19 ++ (wsL_law_r20 ++ (wsL_law_r21 ++ (wsL_law_r22 ++ (wsL_law_r23 ++ (wsL_law_r24 ++ (wsL_law_r25 ++ (wsL_law_r26 ++ (wsL_law_r27 ++ (wsL_law_r28 ++ (wsL_law_r29 ++ (wsL_law_r30 ++ (wsL_law_r31 ++ (wsL_law_r32 ++ (wsL_law_r33 ++ wsL_law_r34))))))))))))))))))))))))))))))))) ++ wsX100 ++ wsX90 ++ wsX30 ++ wsX00 ++ wsX50 ++ wsX80 ++ wsX60 ++ wsX20 ++ wsX40 ++ wsX10 ++ wsX70 ++ ([] : List Cond)
theorem inlX0 : ∀ w ∈ wsX00, w ∈ wsL_law := fun _ h => List.mem_append_left _ (List.mem_append_left _ (List.mem_append_left _ (List.mem_append_left _ (List.mem_append_left _ (List.mem_append_left _ (List.mem_append_left _ (List.mem_append_left _ (List.mem_append_right _ h))))))))
theorem inlX1 : ∀ w ∈ wsX10, w ∈ wsL_law := fun _ h => List.mem_append_left _ (List.mem_append_left _ (List.mem_append_right _ h))
theorem inlX2 : ∀ w ∈ wsX20, w ∈ wsL_law := fun _ h => List.mem_append_left _ (List.mem_append_left _ (List.mem_append_left _ (List.mem_append_left _ (List.mem_append_right _ h))))
theorem inlX3 : ∀ w ∈ wsX30, w ∈ wsL_law := fun _ h => List.mem_append_left _ (List.mem_append_left _ (List.mem_append_left _ (List.mem_append_left _ (List.mem_append_left _ (List.mem_append_left _ (List.mem_append_left _ (List.mem_append_left _ (List.mem_append_left _ (List.mem_append_right _ h)))))))))
theorem inlX4 : ∀ w ∈ wsX40, w ∈ wsL_law := fun _ h => List.mem_append_left _ (List.mem_append_left _ (List.mem_append_left _ (List.mem_append_right _ h)))
theorem inlX5 : ∀ w ∈ wsX50, w ∈ wsL_law := fun _ h => List.mem_append_left _ (List.mem_append_left _ (List.mem_append_left _ (List.mem_append_left _ (List.mem_append_left _ (List.mem_append_left _ (List.mem_append_left _ (List.mem_append_right _ h)))))))
theorem inlX6 : ∀ w ∈ wsX60, w ∈ wsL_law := fun _ h => List.mem_append_left _ (List.mem_append_left _ (List.mem_append_left _ (List.mem_append_left _ (List.mem_append_left _ (List.mem_append_right _ h)))))
theorem inlX7 : ∀ w ∈ wsX70, w ∈ wsL_law := fun _ h => List.mem_append_left _ (List.mem_append_right _ h)
theorem inlX8 : ∀ w ∈ wsX80, w ∈ wsL_law := fun _ h => List.mem_append_left _ (List.mem_append_left _ (List.mem_append_left _ (List.mem_append_left _ (List.mem_append_left _ (List.mem_append_left _ (List.mem_append_right _ h))))))
theorem inlX9 : ∀ w ∈ wsX90, w ∈ wsL_law := fun _ h => List.mem_append_left _ (List.mem_append_left _ (List.mem_append_left _ (List.mem_append_left _ (List.mem_append_left _ (List.mem_append_left _ (List.mem_append_left _ (List.mem_append_left _ (List.mem_append_left _ (List.mem_append_left _ (List.mem_append_right _ h))))))))))
theorem inlX10 : ∀ w ∈ wsX100, w ∈ wsL_law := fun _ h => List.mem_append_left _ (List.mem_append_left _ (List.mem_append_left _ (List.mem_append_left _ (List.mem_append_left _ (List.mem_append_left _ (List.mem_append_left _ (List.mem_append_left _ (List.mem_append_left _ (List.mem_append_left _ (List.mem_append_left _ (List.mem_append_right _ h)))))))))))
theorem inJ9 : ∀ w ∈ wsJ90, w ∈ lw_tbl := by decide +kernel
theorem inJ0 : ∀ w ∈ wsJ00, w ∈ lw_tbl := by decide +kernel
theorem inJ1 : ∀ w ∈ wsJ10, w ∈ lw_tbl := by decide +kernel
theorem inJ2 : ∀ w ∈ wsJ20, w ∈ lw_tbl := by decide +kernel
theorem inJ10 : ∀ w ∈ wsJ100, w ∈ lw_tbl := by decide +kernel
theorem inJ3 : ∀ w ∈ wsJ30, w ∈ lw_tbl := by decide +kernel
abbrev vwCl : List vw_C := [(RX0, TX0, 4), (RX1, TX1, 7), (RX2, TX2, 8), (RX3, TX3, 3), (RX4, TX4, 8), (RX5, TX5, 7), (RX6, TX6, 3), (RX7, TX7, 1), (RX8, TX8, 3), (RX9, TX9, 3), (RX10, TX10, 9)]
