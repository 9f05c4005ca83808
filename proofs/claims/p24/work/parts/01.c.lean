def RX0 : String := "Resetline$Calendar"
def TX0 : u_T := fun k => match k with
  | 0 => ("Resetline$Calendar", "firstTown", "LResetline$Diary;", true)
  | _ => ("Resetline$Calendar", "secondTown", "LResetline$Diary;", true)
def tyX0 : Nat → FieldType := fun k => match k with
  | 0 => .object "Resetline$Diary"
  | _ => .object "Resetline$Diary"
abbrev wsX00 : List Cond := u_ws RX0 TX0 2
theorem nmX0 : ∀ a, a < 2 → ∀ b, b < 2 → a ≠ b → (TX0 a).2.1 ≠ (TX0 b).2.1 := by decide +kernel
theorem tyX0_ok : ∀ k, k < 2 → parseFieldDescriptor (TX0 k).2.2.1 = some (tyX0 k) := by decide +kernel
abbrev cX0_init : ByteArray := prog_2_method_1_code
def yX0_init : MethodName := ⟨RX0, "<init>", "()V"⟩
abbrev cX0_holidaysOf : ByteArray := prog_2_method_2_code
def yX0_holidaysOf : MethodName := ⟨RX0, "holidaysOf", "(I)LResetline$Diary;"⟩
abbrev cX0_opensOn : ByteArray := prog_2_method_3_code
def yX0_opensOn : MethodName := ⟨RX0, "opensOn", "(I)Z"⟩
abbrev cX0_rolledDayOf : ByteArray := prog_2_method_4_code
def yX0_rolledDayOf : MethodName := ⟨RX0, "rolledDayOf", "(I)I"⟩
def RX1 : String := "Resetline$Diary"
def TX1 : u_T := fun k => match k with
  | _ => ("Resetline$Diary", "entries", "Ljava/util/ArrayList;", true)
def tyX1 : Nat → FieldType := fun k => match k with
  | _ => .object "java/util/ArrayList"
abbrev wsX10 : List Cond := u_ws RX1 TX1 1
theorem nmX1 : ∀ a, a < 1 → ∀ b, b < 1 → a ≠ b → (TX1 a).2.1 ≠ (TX1 b).2.1 := by decide +kernel
theorem tyX1_ok : ∀ k, k < 1 → parseFieldDescriptor (TX1 k).2.2.1 = some (tyX1 k) := by decide +kernel
abbrev cX1_init : ByteArray := prog_3_method_1_code
def yX1_init : MethodName := ⟨RX1, "<init>", "()V"⟩
abbrev cX1_count : ByteArray := prog_3_method_2_code
def yX1_count : MethodName := ⟨RX1, "count", "()I"⟩
abbrev cX1_has : ByteArray := prog_3_method_3_code
def yX1_has : MethodName := ⟨RX1, "has", "(I)Z"⟩
abbrev cX1_add : ByteArray := prog_3_method_4_code
def yX1_add : MethodName := ⟨RX1, "add", "(II)V"⟩
abbrev cX1_put : ByteArray := prog_3_method_5_code
def yX1_put : MethodName := ⟨RX1, "put", "(II)V"⟩
abbrev cX1_latestValue : ByteArray := prog_3_method_6_code
def yX1_latestValue : MethodName := ⟨RX1, "latestValue", "(II)I"⟩
abbrev cX1_sumUntil : ByteArray := prog_3_method_7_code
def yX1_sumUntil : MethodName := ⟨RX1, "sumUntil", "(I)I"⟩
abbrev cX1_entryOf : ByteArray := prog_3_method_8_code
def yX1_entryOf : MethodName := ⟨RX1, "entryOf", "(I)LResetline$Entry;"⟩
def RX2 : String := "Resetline$Entry"
def TX2 : u_T := fun k => match k with
  | 0 => ("Resetline$Entry", "day", "I", true)
  | _ => ("Resetline$Entry", "value", "I", false)
def tyX2 : Nat → FieldType := fun k => match k with
  | 0 => .int
  | _ => .int
abbrev wsX20 : List Cond := u_ws RX2 TX2 2
theorem nmX2 : ∀ a, a < 2 → ∀ b, b < 2 → a ≠ b → (TX2 a).2.1 ≠ (TX2 b).2.1 := by decide +kernel
theorem tyX2_ok : ∀ k, k < 2 → parseFieldDescriptor (TX2 k).2.2.1 = some (tyX2 k) := by decide +kernel
abbrev cX2_init : ByteArray := prog_4_method_1_code
def yX2_init : MethodName := ⟨RX2, "<init>", "(II)V"⟩
def RX3 : String := "Resetline$Swap"
def TX3 : u_T := fun k => match k with
  | 0 => ("Resetline$Swap", "party", "I", true)
  | 1 => ("Resetline$Swap", "lots", "I", true)
  | 2 => ("Resetline$Swap", "paysFixed", "Z", true)
  | 3 => ("Resetline$Swap", "fixed", "I", true)
  | 4 => ("Resetline$Swap", "first", "I", true)
  | 5 => ("Resetline$Swap", "length", "I", true)
  | 6 => ("Resetline$Swap", "periods", "I", true)
  | 7 => ("Resetline$Swap", "spread", "I", false)
  | 8 => ("Resetline$Swap", "dayCount", "I", false)
  | 9 => ("Resetline$Swap", "compounding", "I", false)
  | 10 => ("Resetline$Swap", "breaks", "LResetline$Diary;", true)
  | 11 => ("Resetline$Swap", "handovers", "LResetline$Diary;", true)
  | _ => ("Resetline$Swap", "bounds", "[I", true)
def tyX3 : Nat → FieldType := fun k => match k with
  | 0 => .int
  | 1 => .int
  | 2 => .boolean
  | 3 => .int
  | 4 => .int
  | 5 => .int
  | 6 => .int
  | 7 => .int
  | 8 => .int
  | 9 => .int
  | 10 => .object "Resetline$Diary"
  | 11 => .object "Resetline$Diary"
  | _ => .array .int
abbrev wsX30 : List Cond := u_ws RX3 TX3 13
theorem nmX3 : ∀ a, a < 13 → ∀ b, b < 13 → a ≠ b → (TX3 a).2.1 ≠ (TX3 b).2.1 := by decide +kernel
theorem tyX3_ok : ∀ k, k < 13 → parseFieldDescriptor (TX3 k).2.2.1 = some (tyX3 k) := by decide +kernel
abbrev cX3_init : ByteArray := prog_5_method_1_code
def yX3_init : MethodName := ⟨RX3, "<init>", "(IIZIIII)V"⟩
abbrev cX3_rollDays : ByteArray := prog_5_method_2_code
def yX3_rollDays : MethodName := ⟨RX3, "rollDays", "(LResetline$Calendar;)V"⟩
abbrev cX3_startOf : ByteArray := prog_5_method_3_code
def yX3_startOf : MethodName := ⟨RX3, "startOf", "(I)I"⟩
abbrev cX3_endOf : ByteArray := prog_5_method_4_code
def yX3_endOf : MethodName := ⟨RX3, "endOf", "(I)I"⟩
abbrev cX3_lotsOf : ByteArray := prog_5_method_5_code
def yX3_lotsOf : MethodName := ⟨RX3, "lotsOf", "(I)I"⟩
abbrev cX3_restOfLots : ByteArray := prog_5_method_6_code
def yX3_restOfLots : MethodName := ⟨RX3, "restOfLots", "()I"⟩
abbrev cX3_holderOn : ByteArray := prog_5_method_7_code
def yX3_holderOn : MethodName := ⟨RX3, "holderOn", "(I)I"⟩
abbrev cX3_floatingOf : ByteArray := prog_5_method_8_code
def yX3_floatingOf : MethodName := ⟨RX3, "floatingOf", "(ILResetline$Diary;)J"⟩
abbrev cX3_flowOf : ByteArray := prog_5_method_9_code
def yX3_flowOf : MethodName := ⟨RX3, "flowOf", "(ILResetline$Diary;)J"⟩
abbrev cX3_cashOf : ByteArray := prog_5_method_10_code
def yX3_cashOf : MethodName := ⟨RX3, "cashOf", "(IIILResetline$Diary;)J"⟩
abbrev cX3_nextPayDay : ByteArray := prog_5_method_11_code
def yX3_nextPayDay : MethodName := ⟨RX3, "nextPayDay", "(II)I"⟩
abbrev cX3_fits : ByteArray := prog_5_method_12_code
def yX3_fits : MethodName := ⟨RX3, "fits", "(LResetline$Swap;)Z"⟩
abbrev cX3_isOfSamePartyFrom : ByteArray := prog_5_method_13_code
def yX3_isOfSamePartyFrom : MethodName := ⟨RX3, "isOfSamePartyFrom", "(ILResetline$Swap;)Z"⟩
abbrev cX3_daysOf : ByteArray := prog_5_method_14_code
def yX3_daysOf : MethodName := ⟨RX3, "daysOf", "(I)J"⟩
abbrev cX3_rateOf : ByteArray := prog_5_method_15_code
def yX3_rateOf : MethodName := ⟨RX3, "rateOf", "(ILResetline$Diary;)J"⟩
def RX4 : String := "Resetline"
def TX4 : u_T := fun k => match k with
  | 0 => ("Resetline", "calendar", "LResetline$Calendar;", true)
  | 1 => ("Resetline", "fixings", "LResetline$Diary;", true)
  | _ => ("Resetline", "book", "Ljava/util/ArrayList;", true)
def tyX4 : Nat → FieldType := fun k => match k with
  | 0 => .object "Resetline$Calendar"
  | 1 => .object "Resetline$Diary"
  | _ => .object "java/util/ArrayList"
abbrev wsX40 : List Cond := u_ws RX4 TX4 3
theorem nmX4 : ∀ a, a < 3 → ∀ b, b < 3 → a ≠ b → (TX4 a).2.1 ≠ (TX4 b).2.1 := by decide +kernel
theorem tyX4_ok : ∀ k, k < 3 → parseFieldDescriptor (TX4 k).2.2.1 = some (tyX4 k) := by decide +kernel
abbrev cX4_init : ByteArray := prog_1_method_1_code
def yX4_init : MethodName := ⟨RX4, "<init>", "()V"⟩
abbrev cX4_holiday : ByteArray := prog_1_method_2_code
def yX4_holiday : MethodName := ⟨RX4, "holiday", "(II)I"⟩
abbrev cX4_isOpen : ByteArray := prog_1_method_3_code
def yX4_isOpen : MethodName := ⟨RX4, "isOpen", "(I)Z"⟩
abbrev cX4_roll : ByteArray := prog_1_method_4_code
def yX4_roll : MethodName := ⟨RX4, "roll", "(I)I"⟩
abbrev cX4_fix : ByteArray := prog_1_method_5_code
def yX4_fix : MethodName := ⟨RX4, "fix", "(II)I"⟩
abbrev cX4_trade : ByteArray := prog_1_method_7_code
def yX4_trade : MethodName := ⟨RX4, "trade", "(IIZIIII)I"⟩
abbrev cX4_breakPart : ByteArray := prog_1_method_9_code
def yX4_breakPart : MethodName := ⟨RX4, "breakPart", "(III)I"⟩
abbrev cX4_handOver : ByteArray := prog_1_method_10_code
def yX4_handOver : MethodName := ⟨RX4, "handOver", "(III)I"⟩
abbrev cX4_press : ByteArray := prog_1_method_11_code
def yX4_press : MethodName := ⟨RX4, "press", "(I)I"⟩
abbrev cX4_trades : ByteArray := prog_1_method_12_code
def yX4_trades : MethodName := ⟨RX4, "trades", "()I"⟩
abbrev cX4_start : ByteArray := prog_1_method_13_code
def yX4_start : MethodName := ⟨RX4, "start", "(II)I"⟩
abbrev cX4_end : ByteArray := prog_1_method_14_code
def yX4_end : MethodName := ⟨RX4, "end", "(II)I"⟩
abbrev cX4_lots : ByteArray := prog_1_method_15_code
def yX4_lots : MethodName := ⟨RX4, "lots", "(II)I"⟩
abbrev cX4_flow : ByteArray := prog_1_method_17_code
def yX4_flow : MethodName := ⟨RX4, "flow", "(II)J"⟩
abbrev cX4_partyOn : ByteArray := prog_1_method_18_code
def yX4_partyOn : MethodName := ⟨RX4, "partyOn", "(II)I"⟩
abbrev cX4_cashOfDays : ByteArray := prog_1_method_20_code
def yX4_cashOfDays : MethodName := ⟨RX4, "cashOfDays", "(III)J"⟩
abbrev cX4_cashByTrades : ByteArray := prog_1_method_21_code
def yX4_cashByTrades : MethodName := ⟨RX4, "cashByTrades", "(III)J"⟩
abbrev cX4_nextFlow : ByteArray := prog_1_method_22_code
def yX4_nextFlow : MethodName := ⟨RX4, "nextFlow", "(II)I"⟩
abbrev cX4_checkRange : ByteArray := prog_1_method_23_code
def yX4_checkRange : MethodName := ⟨RX4, "checkRange", "(III)V"⟩
abbrev cX4_checkSpan : ByteArray := prog_1_method_24_code
def yX4_checkSpan : MethodName := ⟨RX4, "checkSpan", "(II)V"⟩
abbrev cX4_checkParty : ByteArray := prog_1_method_25_code
def yX4_checkParty : MethodName := ⟨RX4, "checkParty", "(I)V"⟩
abbrev cX4_swapAt : ByteArray := prog_1_method_26_code
def yX4_swapAt : MethodName := ⟨RX4, "swapAt", "(I)LResetline$Swap;"⟩
abbrev cX4_swapWithPeriod : ByteArray := prog_1_method_27_code
def yX4_swapWithPeriod : MethodName := ⟨RX4, "swapWithPeriod", "(II)LResetline$Swap;"⟩
abbrev cX4_rollAllTrades : ByteArray := prog_1_method_28_code
def yX4_rollAllTrades : MethodName := ⟨RX4, "rollAllTrades", "()V"⟩
abbrev cX4_cashOnDay : ByteArray := prog_1_method_29_code
def yX4_cashOnDay : MethodName := ⟨RX4, "cashOnDay", "(II)J"⟩
abbrev cX4_pressPair : ByteArray := prog_1_method_30_code
def yX4_pressPair : MethodName := ⟨RX4, "pressPair", "(LResetline$Swap;LResetline$Swap;I)I"⟩
def RX5 : String := "ResetlineModel"
def TX5 : u_T := fun k => match k with
  | _ => ("", "", "", false)
def tyX5 : Nat → FieldType := fun k => match k with
  | _ => .int
abbrev wsX50 : List Cond := u_ws RX5 TX5 0
theorem nmX5 : ∀ a, a < 0 → ∀ b, b < 0 → a ≠ b → (TX5 a).2.1 ≠ (TX5 b).2.1 := by decide +kernel
theorem tyX5_ok : ∀ k, k < 0 → parseFieldDescriptor (TX5 k).2.2.1 = some (tyX5 k) := by decide +kernel
def RJx145de : String := "java/io/Serializable"
def TJx145de : u_T := fun k => match k with
  | _ => ("", "", "", false)
def tyJx145de : Nat → FieldType := fun k => match k with
  | _ => .int
abbrev wsJx145de0 : List Cond := u_ws RJx145de TJx145de 0
theorem nmJx145de : ∀ a, a < 0 → ∀ b, b < 0 → a ≠ b → (TJx145de a).2.1 ≠ (TJx145de b).2.1 := by decide +kernel
theorem tyJx145de_ok : ∀ k, k < 0 → parseFieldDescriptor (TJx145de k).2.2.1 = some (tyJx145de k) := by decide +kernel
def RJx8e188 : String := "java/lang/Cloneable"
def TJx8e188 : u_T := fun k => match k with
  | _ => ("", "", "", false)
def tyJx8e188 : Nat → FieldType := fun k => match k with
  | _ => .int
abbrev wsJx8e1880 : List Cond := u_ws RJx8e188 TJx8e188 0
theorem nmJx8e188 : ∀ a, a < 0 → ∀ b, b < 0 → a ≠ b → (TJx8e188 a).2.1 ≠ (TJx8e188 b).2.1 := by decide +kernel
theorem tyJx8e188_ok : ∀ k, k < 0 → parseFieldDescriptor (TJx8e188 k).2.2.1 = some (tyJx8e188 k) := by decide +kernel
def RJxab1ab : String := "java/lang/Iterable"
def TJxab1ab : u_T := fun k => match k with
  | _ => ("", "", "", false)
def tyJxab1ab : Nat → FieldType := fun k => match k with
  | _ => .int
abbrev wsJxab1ab0 : List Cond := u_ws RJxab1ab TJxab1ab 0
theorem nmJxab1ab : ∀ a, a < 0 → ∀ b, b < 0 → a ≠ b → (TJxab1ab a).2.1 ≠ (TJxab1ab b).2.1 := by decide +kernel
theorem tyJxab1ab_ok : ∀ k, k < 0 → parseFieldDescriptor (TJxab1ab k).2.2.1 = some (tyJxab1ab k) := by decide +kernel
def RJ9 : String := "java/lang/Math"
def TJ9 : u_T := fun k => match k with
  | _ => ("", "", "", false)
def tyJ9 : Nat → FieldType := fun k => match k with
  | _ => .int
abbrev wsJ90 : List Cond := u_ws RJ9 TJ9 0
theorem nmJ9 : ∀ a, a < 0 → ∀ b, b < 0 → a ≠ b → (TJ9 a).2.1 ≠ (TJ9 b).2.1 := by decide +kernel
theorem tyJ9_ok : ∀ k, k < 0 → parseFieldDescriptor (TJ9 k).2.2.1 = some (tyJ9 k) := by decide +kernel
abbrev cJ9_floorDiv_f86c9 : ByteArray := prog_15_method_49_code
def yJ9_floorDiv_f86c9 : MethodName := ⟨RJ9, "floorDiv", "(JJ)J"⟩
abbrev cJ9_floorMod_7cf53 : ByteArray := prog_15_method_50_code
def yJ9_floorMod_7cf53 : MethodName := ⟨RJ9, "floorMod", "(II)I"⟩
abbrev cJ9_max_7cf53 : ByteArray := prog_15_method_65_code
def yJ9_max_7cf53 : MethodName := ⟨RJ9, "max", "(II)I"⟩
abbrev cJ9_min_7cf53 : ByteArray := prog_15_method_69_code
def yJ9_min_7cf53 : MethodName := ⟨RJ9, "min", "(II)I"⟩
def RJ0 : String := "java/lang/String"
def TJ0 : u_T := fun k => match k with
  | _ => ("", "", "", false)
def tyJ0 : Nat → FieldType := fun k => match k with
  | _ => .int
abbrev wsJ00 : List Cond := u_ws RJ0 TJ0 0
theorem nmJ0 : ∀ a, a < 0 → ∀ b, b < 0 → a ≠ b → (TJ0 a).2.1 ≠ (TJ0 b).2.1 := by decide +kernel
theorem tyJ0_ok : ∀ k, k < 0 → parseFieldDescriptor (TJ0 k).2.2.1 = some (tyJ0 k) := by decide +kernel
def RJ10 : String := "java/lang/System"
def TJ10 : u_T := fun k => match k with
  | _ => ("", "", "", false)
def tyJ10 : Nat → FieldType := fun k => match k with
  | _ => .int
abbrev wsJ100 : List Cond := u_ws RJ10 TJ10 0
theorem nmJ10 : ∀ a, a < 0 → ∀ b, b < 0 → a ≠ b → (TJ10 a).2.1 ≠ (TJ10 b).2.1 := by decide +kernel
theorem tyJ10_ok : ∀ k, k < 0 → parseFieldDescriptor (TJ10 k).2.2.1 = some (tyJ10 k) := by decide +kernel
def RJxa1e45 : String := "java/util/AbstractCollection"
def TJxa1e45 : u_T := fun k => match k with
  | _ => ("", "", "", false)
def tyJxa1e45 : Nat → FieldType := fun k => match k with
  | _ => .int
abbrev wsJxa1e450 : List Cond := u_ws RJxa1e45 TJxa1e45 0
theorem nmJxa1e45 : ∀ a, a < 0 → ∀ b, b < 0 → a ≠ b → (TJxa1e45 a).2.1 ≠ (TJxa1e45 b).2.1 := by decide +kernel
theorem tyJxa1e45_ok : ∀ k, k < 0 → parseFieldDescriptor (TJxa1e45 k).2.2.1 = some (tyJxa1e45 k) := by decide +kernel
abbrev cJxa1e45_init_da8c8 : ByteArray := prog_20_method_1_code
def yJxa1e45_init_da8c8 : MethodName := ⟨RJxa1e45, "<init>", "()V"⟩
def RJxc12de : String := "java/util/AbstractList"
def TJxc12de : u_T := fun k => match k with
  | _ => ("", "", "", false)
def tyJxc12de : Nat → FieldType := fun k => match k with
  | _ => .int
abbrev wsJxc12de0 : List Cond := u_ws RJxc12de TJxc12de 0
theorem nmJxc12de : ∀ a, a < 0 → ∀ b, b < 0 → a ≠ b → (TJxc12de a).2.1 ≠ (TJxc12de b).2.1 := by decide +kernel
theorem tyJxc12de_ok : ∀ k, k < 0 → parseFieldDescriptor (TJxc12de k).2.2.1 = some (tyJxc12de k) := by decide +kernel
abbrev cJxc12de_init_da8c8 : ByteArray := prog_21_method_1_code
def yJxc12de_init_da8c8 : MethodName := ⟨RJxc12de, "<init>", "()V"⟩
def RJx4a65c : String := "java/util/ArrayList"
def TJx4a65c : u_T := fun k => match k with
  | 0 => ("java/util/AbstractList", "modCount", "I", false)
  | 1 => ("java/util/ArrayList", "elementData", "[Ljava/lang/Object;", false)
  | _ => ("java/util/ArrayList", "size", "I", false)
def tyJx4a65c : Nat → FieldType := fun k => match k with
  | 0 => .int
  | 1 => .array (.object "java/lang/Object")
  | _ => .int
abbrev wsJx4a65c0 : List Cond := u_ws RJx4a65c TJx4a65c 3
theorem nmJx4a65c : ∀ a, a < 3 → ∀ b, b < 3 → a ≠ b → (TJx4a65c a).2.1 ≠ (TJx4a65c b).2.1 := by decide +kernel
theorem tyJx4a65c_ok : ∀ k, k < 3 → parseFieldDescriptor (TJx4a65c k).2.2.1 = some (tyJx4a65c k) := by decide +kernel
abbrev cJx4a65c_init_da8c8 : ByteArray := prog_22_method_2_code
def yJx4a65c_init_da8c8 : MethodName := ⟨RJx4a65c, "<init>", "()V"⟩
abbrev cJx4a65c_grow_92f84 : ByteArray := prog_22_method_6_code
def yJx4a65c_grow_92f84 : MethodName := ⟨RJx4a65c, "grow", "(I)[Ljava/lang/Object;"⟩
abbrev cJx4a65c_grow_d5877 : ByteArray := prog_22_method_7_code
def yJx4a65c_grow_d5877 : MethodName := ⟨RJx4a65c, "grow", "()[Ljava/lang/Object;"⟩
abbrev cJx4a65c_size_8abf5 : ByteArray := prog_22_method_8_code
def yJx4a65c_size_8abf5 : MethodName := ⟨RJx4a65c, "size", "()I"⟩
abbrev cJx4a65c_elementData_915e3 : ByteArray := prog_22_method_18_code
def yJx4a65c_elementData_915e3 : MethodName := ⟨RJx4a65c, "elementData", "(I)Ljava/lang/Object;"⟩
abbrev cJx4a65c_get_915e3 : ByteArray := prog_22_method_20_code
def yJx4a65c_get_915e3 : MethodName := ⟨RJx4a65c, "get", "(I)Ljava/lang/Object;"⟩
abbrev cJx4a65c_add_72be8 : ByteArray := prog_22_method_24_code
def yJx4a65c_add_72be8 : MethodName := ⟨RJx4a65c, "add", "(Ljava/lang/Object;[Ljava/lang/Object;I)V"⟩
abbrev cJx4a65c_add_9ea2d : ByteArray := prog_22_method_25_code
def yJx4a65c_add_9ea2d : MethodName := ⟨RJx4a65c, "add", "(Ljava/lang/Object;)Z"⟩
def RJ7 : String := "java/util/Arrays"
def TJ7 : u_T := fun k => match k with
  | _ => ("", "", "", false)
def tyJ7 : Nat → FieldType := fun k => match k with
  | _ => .int
abbrev wsJ70 : List Cond := u_ws RJ7 TJ7 0
theorem nmJ7 : ∀ a, a < 0 → ∀ b, b < 0 → a ≠ b → (TJ7 a).2.1 ≠ (TJ7 b).2.1 := by decide +kernel
theorem tyJ7_ok : ∀ k, k < 0 → parseFieldDescriptor (TJ7 k).2.2.1 = some (tyJ7 k) := by decide +kernel
abbrev cJ7_copyOf_1904c : ByteArray := prog_23_method_119_code
def yJ7_copyOf_1904c : MethodName := ⟨RJ7, "copyOf", "([Ljava/lang/Object;I)[Ljava/lang/Object;"⟩
abbrev cJ7_copyOf_6403c : ByteArray := prog_23_method_120_code
def yJ7_copyOf_6403c : MethodName := ⟨RJ7, "copyOf", "([Ljava/lang/Object;ILjava/lang/Class;)[Ljava/lang/Object;"⟩
def RJx5ef63 : String := "java/util/Collection"
def TJx5ef63 : u_T := fun k => match k with
  | _ => ("", "", "", false)
def tyJx5ef63 : Nat → FieldType := fun k => match k with
  | _ => .int
abbrev wsJx5ef630 : List Cond := u_ws RJx5ef63 TJx5ef63 0
theorem nmJx5ef63 : ∀ a, a < 0 → ∀ b, b < 0 → a ≠ b → (TJx5ef63 a).2.1 ≠ (TJx5ef63 b).2.1 := by decide +kernel
theorem tyJx5ef63_ok : ∀ k, k < 0 → parseFieldDescriptor (TJx5ef63 k).2.2.1 = some (tyJx5ef63 k) := by decide +kernel
def RJxbd725 : String := "java/util/List"
def TJxbd725 : u_T := fun k => match k with
  | _ => ("", "", "", false)
def tyJxbd725 : Nat → FieldType := fun k => match k with
  | _ => .int
abbrev wsJxbd7250 : List Cond := u_ws RJxbd725 TJxbd725 0
theorem nmJxbd725 : ∀ a, a < 0 → ∀ b, b < 0 → a ≠ b → (TJxbd725 a).2.1 ≠ (TJxbd725 b).2.1 := by decide +kernel
theorem tyJxbd725_ok : ∀ k, k < 0 → parseFieldDescriptor (TJxbd725 k).2.2.1 = some (tyJxbd725 k) := by decide +kernel
def RJ15 : String := "java/util/Objects"
def TJ15 : u_T := fun k => match k with
  | _ => ("", "", "", false)
def tyJ15 : Nat → FieldType := fun k => match k with
  | _ => .int
abbrev wsJ150 : List Cond := u_ws RJ15 TJ15 0
theorem nmJ15 : ∀ a, a < 0 → ∀ b, b < 0 → a ≠ b → (TJ15 a).2.1 ≠ (TJ15 b).2.1 := by decide +kernel
theorem tyJ15_ok : ∀ k, k < 0 → parseFieldDescriptor (TJ15 k).2.2.1 = some (tyJ15 k) := by decide +kernel
abbrev cJ15_checkIndex_7cf53 : ByteArray := prog_26_method_17_code
def yJ15_checkIndex_7cf53 : MethodName := ⟨RJ15, "checkIndex", "(II)I"⟩
def RJxf0a74 : String := "java/util/RandomAccess"
def TJxf0a74 : u_T := fun k => match k with
  | _ => ("", "", "", false)
def tyJxf0a74 : Nat → FieldType := fun k => match k with
  | _ => .int
abbrev wsJxf0a740 : List Cond := u_ws RJxf0a74 TJxf0a74 0
theorem nmJxf0a74 : ∀ a, a < 0 → ∀ b, b < 0 → a ≠ b → (TJxf0a74 a).2.1 ≠ (TJxf0a74 b).2.1 := by decide +kernel
theorem tyJxf0a74_ok : ∀ k, k < 0 → parseFieldDescriptor (TJxf0a74 k).2.2.1 = some (tyJxf0a74 k) := by decide +kernel
def RJxa66e6 : String := "java/util/SequencedCollection"
def TJxa66e6 : u_T := fun k => match k with
  | _ => ("", "", "", false)
def tyJxa66e6 : Nat → FieldType := fun k => match k with
  | _ => .int
abbrev wsJxa66e60 : List Cond := u_ws RJxa66e6 TJxa66e6 0
theorem nmJxa66e6 : ∀ a, a < 0 → ∀ b, b < 0 → a ≠ b → (TJxa66e6 a).2.1 ≠ (TJxa66e6 b).2.1 := by decide +kernel
theorem tyJxa66e6_ok : ∀ k, k < 0 → parseFieldDescriptor (TJxa66e6 k).2.2.1 = some (tyJxa66e6 k) := by decide +kernel
def RJ8 : String := "jdk/internal/util/ArraysSupport"
def TJ8 : u_T := fun k => match k with
  | _ => ("", "", "", false)
def tyJ8 : Nat → FieldType := fun k => match k with
  | _ => .int
abbrev wsJ80 : List Cond := u_ws RJ8 TJ8 0
theorem nmJ8 : ∀ a, a < 0 → ∀ b, b < 0 → a ≠ b → (TJ8 a).2.1 ≠ (TJ8 b).2.1 := by decide +kernel
theorem tyJ8_ok : ∀ k, k < 0 → parseFieldDescriptor (TJ8 k).2.2.1 = some (tyJ8 k) := by decide +kernel
abbrev cJ8_newLength_cabcc : ByteArray := prog_29_method_27_code
def yJ8_newLength_cabcc : MethodName := ⟨RJ8, "newLength", "(III)I"⟩
abbrev cJ8_hugeLength_7cf53 : ByteArray := prog_29_method_28_code
def yJ8_hugeLength_7cf53 : MethodName := ⟨RJ8, "hugeLength", "(II)I"⟩
def RJ3 : String := "jdk/internal/util/Preconditions"
def TJ3 : u_T := fun k => match k with
  | _ => ("", "", "", false)
def tyJ3 : Nat → FieldType := fun k => match k with
  | _ => .int
abbrev wsJ30 : List Cond := u_ws RJ3 TJ3 0
theorem nmJ3 : ∀ a, a < 0 → ∀ b, b < 0 → a ≠ b → (TJ3 a).2.1 ≠ (TJ3 b).2.1 := by decide +kernel
theorem tyJ3_ok : ∀ k, k < 0 → parseFieldDescriptor (TJ3 k).2.2.1 = some (tyJ3 k) := by decide +kernel
abbrev cJ3_checkIndex_8e157 : ByteArray := prog_30_method_11_code
def yJ3_checkIndex_8e157 : MethodName := ⟨RJ3, "checkIndex", "(IILjava/util/function/BiFunction;)I"⟩
def RL : String := "ResetlineLaw"
abbrev cL_cell : ByteArray := method_2_code
def yL_cell : MethodName := ⟨RL, "cell", "([II)I"⟩
abbrev cL_low : ByteArray := method_3_code
def yL_low : MethodName := ⟨RL, "low", "(II)I"⟩
abbrev cL_isCash : ByteArray := method_4_code
def yL_isCash : MethodName := ⟨RL, "isCash", "(LResetline;[III)Z"⟩
abbrev cL_isPressed : ByteArray := method_5_code
def yL_isPressed : MethodName := ⟨RL, "isPressed", "(LResetline;[III)Z"⟩
abbrev cL_law : ByteArray := code
def yL_law : MethodName := ⟨RL, "law", "([I)Z"⟩
abbrev cL_breaks : ByteArray := method_7_code
def yL_breaks : MethodName := ⟨RL, "breaks", "(LResetline;IIIII)Z"⟩
abbrev vwCl : List vw_C := [(RJx4a65c, TJx4a65c, 3), (RX0, TX0, 2), (RX1, TX1, 1), (RX2, TX2, 2), (RX3, TX3, 13), (RX4, TX4, 3)]
