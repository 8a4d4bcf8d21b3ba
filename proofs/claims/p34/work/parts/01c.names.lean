def RX0 : String := "Takinghall$Interest"
def TX0 : u_T := fun k => match k with
  | 0 => ("Takinghall$Interest", "number", "I", true)
  | 1 => ("Takinghall$Interest", "kind", "I", true)
  | 2 => ("Takinghall$Interest", "plot", "LTakinghall$Plot;", true)
  | 3 => ("Takinghall$Interest", "person", "I", true)
  | 4 => ("Takinghall$Interest", "since", "I", true)
  | 5 => ("Takinghall$Interest", "measure", "I", true)
  | 6 => ("Takinghall$Interest", "profit", "I", true)
  | 7 => ("Takinghall$Interest", "noticeDay", "I", false)
  | 8 => ("Takinghall$Interest", "hasObjected", "Z", false)
  | 9 => ("Takinghall$Interest", "isObjectionOpen", "Z", false)
  | 10 => ("Takinghall$Interest", "sum", "J", false)
  | 11 => ("Takinghall$Interest", "advanced", "J", false)
  | 12 => ("Takinghall$Interest", "advanceDay", "I", false)
  | 13 => ("Takinghall$Interest", "settled", "J", false)
  | _ => ("Takinghall$Interest", "isSettled", "Z", false)
def tyX0 : Nat → FieldType := fun k => match k with
  | 0 => .int
  | 1 => .int
  | 2 => .object "Takinghall$Plot"
  | 3 => .int
  | 4 => .int
  | 5 => .int
  | 6 => .int
  | 7 => .int
  | 8 => .boolean
  | 9 => .boolean
  | 10 => .long
  | 11 => .long
  | 12 => .int
  | 13 => .long
  | _ => .boolean
abbrev wsX00 : List Cond := u_ws RX0 TX0 15
theorem nmX0 : ∀ a, a < 15 → ∀ b, b < 15 → a ≠ b → (TX0 a).2.1 ≠ (TX0 b).2.1 := by decide +kernel
theorem tyX0_ok : ∀ k, k < 15 → parseFieldDescriptor (TX0 k).2.2.1 = some (tyX0 k) := by decide +kernel
abbrev cX0_init : ByteArray := prog_2_method_1_code
def yX0_init : MethodName := ⟨RX0, "<init>", "(IILTakinghall$Plot;IIII)V"⟩
def RX1 : String := "Takinghall$Plot"
def TX1 : u_T := fun k => match k with
  | 0 => ("Takinghall$Plot", "number", "I", true)
  | 1 => ("Takinghall$Plot", "area", "I", false)
  | 2 => ("Takinghall$Plot", "use", "I", false)
  | 3 => ("Takinghall$Plot", "state", "I", false)
  | 4 => ("Takinghall$Plot", "scheme", "LTakinghall$Scheme;", false)
  | 5 => ("Takinghall$Plot", "part", "I", false)
  | 6 => ("Takinghall$Plot", "valueDay", "I", false)
  | 7 => ("Takinghall$Plot", "valuePrice", "LTakinghall$Price;", false)
  | 8 => ("Takinghall$Plot", "hasWorks", "Z", false)
  | 9 => ("Takinghall$Plot", "offeredTo", "LTakinghall$Interest;", false)
  | _ => ("Takinghall$Plot", "offerPrice", "I", false)
def tyX1 : Nat → FieldType := fun k => match k with
  | 0 => .int
  | 1 => .int
  | 2 => .int
  | 3 => .int
  | 4 => .object "Takinghall$Scheme"
  | 5 => .int
  | 6 => .int
  | 7 => .object "Takinghall$Price"
  | 8 => .boolean
  | 9 => .object "Takinghall$Interest"
  | _ => .int
abbrev wsX10 : List Cond := u_ws RX1 TX1 11
theorem nmX1 : ∀ a, a < 11 → ∀ b, b < 11 → a ≠ b → (TX1 a).2.1 ≠ (TX1 b).2.1 := by decide +kernel
theorem tyX1_ok : ∀ k, k < 11 → parseFieldDescriptor (TX1 k).2.2.1 = some (tyX1 k) := by decide +kernel
abbrev cX1_init : ByteArray := prog_3_method_1_code
def yX1_init : MethodName := ⟨RX1, "<init>", "(I)V"⟩
def RX2 : String := "Takinghall$Price"
def TX2 : u_T := fun k => match k with
  | 0 => ("Takinghall$Price", "day", "I", true)
  | 1 => ("Takinghall$Price", "cents", "I", true)
  | _ => ("Takinghall$Price", "earlier", "LTakinghall$Price;", true)
def tyX2 : Nat → FieldType := fun k => match k with
  | 0 => .int
  | 1 => .int
  | _ => .object "Takinghall$Price"
abbrev wsX20 : List Cond := u_ws RX2 TX2 3
theorem nmX2 : ∀ a, a < 3 → ∀ b, b < 3 → a ≠ b → (TX2 a).2.1 ≠ (TX2 b).2.1 := by decide +kernel
theorem tyX2_ok : ∀ k, k < 3 → parseFieldDescriptor (TX2 k).2.2.1 = some (tyX2 k) := by decide +kernel
abbrev cX2_init : ByteArray := prog_4_method_1_code
def yX2_init : MethodName := ⟨RX2, "<init>", "(IILTakinghall$Price;)V"⟩
def RX3 : String := "Takinghall$Scheme"
def TX3 : u_T := fun k => match k with
  | 0 => ("Takinghall$Scheme", "number", "I", true)
  | 1 => ("Takinghall$Scheme", "harm", "I", true)
  | 2 => ("Takinghall$Scheme", "rise", "I", true)
  | 3 => ("Takinghall$Scheme", "state", "I", false)
  | 4 => ("Takinghall$Scheme", "confirmDay", "I", false)
  | _ => ("Takinghall$Scheme", "dropDay", "I", false)
def tyX3 : Nat → FieldType := fun k => match k with
  | 0 => .int
  | 1 => .int
  | 2 => .int
  | 3 => .int
  | 4 => .int
  | _ => .int
abbrev wsX30 : List Cond := u_ws RX3 TX3 6
theorem nmX3 : ∀ a, a < 6 → ∀ b, b < 6 → a ≠ b → (TX3 a).2.1 ≠ (TX3 b).2.1 := by decide +kernel
theorem tyX3_ok : ∀ k, k < 6 → parseFieldDescriptor (TX3 k).2.2.1 = some (tyX3 k) := by decide +kernel
abbrev cX3_init : ByteArray := prog_5_method_1_code
def yX3_init : MethodName := ⟨RX3, "<init>", "(III)V"⟩
def RX4 : String := "Takinghall"
def TX4 : u_T := fun k => match k with
  | 0 => ("Takinghall", "plots", "[LTakinghall$Plot;", true)
  | 1 => ("Takinghall", "latestPrices", "[LTakinghall$Price;", true)
  | 2 => ("Takinghall", "interests", "[LTakinghall$Interest;", true)
  | 3 => ("Takinghall", "interestCount", "I", false)
  | 4 => ("Takinghall", "schemes", "[LTakinghall$Scheme;", true)
  | 5 => ("Takinghall", "schemeCount", "I", false)
  | 6 => ("Takinghall", "now", "I", false)
  | 7 => ("Takinghall", "allSums", "J", false)
  | 8 => ("Takinghall", "allPaid", "J", false)
  | 9 => ("Takinghall", "inCourt", "J", false)
  | 10 => ("Takinghall", "paidForBack", "J", false)
  | _ => ("Takinghall", "allLand", "J", false)
def tyX4 : Nat → FieldType := fun k => match k with
  | 0 => .array (.object "Takinghall$Plot")
  | 1 => .array (.object "Takinghall$Price")
  | 2 => .array (.object "Takinghall$Interest")
  | 3 => .int
  | 4 => .array (.object "Takinghall$Scheme")
  | 5 => .int
  | 6 => .int
  | 7 => .long
  | 8 => .long
  | 9 => .long
  | 10 => .long
  | _ => .long
abbrev wsX40 : List Cond := u_ws RX4 TX4 12
theorem nmX4 : ∀ a, a < 12 → ∀ b, b < 12 → a ≠ b → (TX4 a).2.1 ≠ (TX4 b).2.1 := by decide +kernel
theorem tyX4_ok : ∀ k, k < 12 → parseFieldDescriptor (TX4 k).2.2.1 = some (tyX4 k) := by decide +kernel
abbrev cX4_init : ByteArray := prog_1_method_1_code
def yX4_init : MethodName := ⟨RX4, "<init>", "()V"⟩
abbrev cX4_plot : ByteArray := prog_1_method_2_code
def yX4_plot : MethodName := ⟨RX4, "plot", "(III)I"⟩
abbrev cX4_price : ByteArray := prog_1_method_3_code
def yX4_price : MethodName := ⟨RX4, "price", "(II)I"⟩
abbrev cX4_worth : ByteArray := prog_1_method_4_code
def yX4_worth : MethodName := ⟨RX4, "worth", "(II)I"⟩
abbrev cX4_market : ByteArray := prog_1_method_5_code
def yX4_market : MethodName := ⟨RX4, "market", "(I)I"⟩
abbrev cX4_plotOf : ByteArray := prog_1_method_6_code
def yX4_plotOf : MethodName := ⟨RX4, "plotOf", "(II)I"⟩
abbrev cX4_own : ByteArray := prog_1_method_7_code
def yX4_own : MethodName := ⟨RX4, "own", "(III)I"⟩
abbrev cX4_lease : ByteArray := prog_1_method_8_code
def yX4_lease : MethodName := ⟨RX4, "lease", "(IIII)I"⟩
abbrev cX4_charge : ByteArray := prog_1_method_9_code
def yX4_charge : MethodName := ⟨RX4, "charge", "(III)I"⟩
abbrev cX4_interestOf : ByteArray := prog_1_method_10_code
def yX4_interestOf : MethodName := ⟨RX4, "interestOf", "(II)J"⟩
abbrev cX4_scheme : ByteArray := prog_1_method_11_code
def yX4_scheme : MethodName := ⟨RX4, "scheme", "(II)I"⟩
abbrev cX4_draw : ByteArray := prog_1_method_12_code
def yX4_draw : MethodName := ⟨RX4, "draw", "(III)I"⟩
abbrev cX4_notice : ByteArray := prog_1_method_13_code
def yX4_notice : MethodName := ⟨RX4, "notice", "(I)I"⟩
abbrev cX4_object : ByteArray := prog_1_method_14_code
def yX4_object : MethodName := ⟨RX4, "object", "(I)I"⟩
abbrev cX4_hear : ByteArray := prog_1_method_15_code
def yX4_hear : MethodName := ⟨RX4, "hear", "(IZ)I"⟩
abbrev cX4_confirm : ByteArray := prog_1_method_16_code
def yX4_confirm : MethodName := ⟨RX4, "confirm", "(I)I"⟩
abbrev cX4_whoStops : ByteArray := prog_1_method_17_code
def yX4_whoStops : MethodName := ⟨RX4, "whoStops", "(I)I"⟩
abbrev cX4_drop : ByteArray := prog_1_method_18_code
def yX4_drop : MethodName := ⟨RX4, "drop", "(I)I"⟩
abbrev cX4_enter : ByteArray := prog_1_method_20_code
def yX4_enter : MethodName := ⟨RX4, "enter", "(I)I"⟩
abbrev cX4_blight : ByteArray := prog_1_method_21_code
def yX4_blight : MethodName := ⟨RX4, "blight", "(I)I"⟩
abbrev cX4_works : ByteArray := prog_1_method_22_code
def yX4_works : MethodName := ⟨RX4, "works", "(I)I"⟩
abbrev cX4_sumAnew : ByteArray := prog_1_method_23_code
def yX4_sumAnew : MethodName := ⟨RX4, "sumAnew", "(I)J"⟩
abbrev cX4_owed : ByteArray := prog_1_method_24_code
def yX4_owed : MethodName := ⟨RX4, "owed", "(I)J"⟩
abbrev cX4_advance : ByteArray := prog_1_method_25_code
def yX4_advance : MethodName := ⟨RX4, "advance", "(I)J"⟩
abbrev cX4_settle : ByteArray := prog_1_method_26_code
def yX4_settle : MethodName := ⟨RX4, "settle", "(I)J"⟩
abbrev cX4_refuse : ByteArray := prog_1_method_27_code
def yX4_refuse : MethodName := ⟨RX4, "refuse", "(I)I"⟩
abbrev cX4_accept : ByteArray := prog_1_method_28_code
def yX4_accept : MethodName := ⟨RX4, "accept", "(I)I"⟩
abbrev cX4_pass : ByteArray := prog_1_method_29_code
def yX4_pass : MethodName := ⟨RX4, "pass", "(I)I"⟩
abbrev cX4_total : ByteArray := prog_1_method_31_code
def yX4_total : MethodName := ⟨RX4, "total", "(I)J"⟩
abbrev cX4_isWithin : ByteArray := prog_1_method_33_code
def yX4_isWithin : MethodName := ⟨RX4, "isWithin", "(III)Z"⟩
abbrev cX4_isUse : ByteArray := prog_1_method_34_code
def yX4_isUse : MethodName := ⟨RX4, "isUse", "(I)Z"⟩
abbrev cX4_isPerson : ByteArray := prog_1_method_35_code
def yX4_isPerson : MethodName := ⟨RX4, "isPerson", "(I)Z"⟩
abbrev cX4_hundredths : ByteArray := prog_1_method_36_code
def yX4_hundredths : MethodName := ⟨RX4, "hundredths", "(II)I"⟩
abbrev cX4_plotAt : ByteArray := prog_1_method_37_code
def yX4_plotAt : MethodName := ⟨RX4, "plotAt", "(I)LTakinghall$Plot;"⟩
abbrev cX4_interestAt : ByteArray := prog_1_method_38_code
def yX4_interestAt : MethodName := ⟨RX4, "interestAt", "(I)LTakinghall$Interest;"⟩
abbrev cX4_schemeAt : ByteArray := prog_1_method_39_code
def yX4_schemeAt : MethodName := ⟨RX4, "schemeAt", "(I)LTakinghall$Scheme;"⟩
abbrev cX4_numberOf : ByteArray := prog_1_method_40_code
def yX4_numberOf : MethodName := ⟨RX4, "numberOf", "(LTakinghall$Plot;)I"⟩
abbrev cX4_numberOf_ : ByteArray := prog_1_method_41_code
def yX4_numberOf_ : MethodName := ⟨RX4, "numberOf", "(LTakinghall$Interest;)I"⟩
abbrev cX4_numberOf__ : ByteArray := prog_1_method_42_code
def yX4_numberOf__ : MethodName := ⟨RX4, "numberOf", "(LTakinghall$Scheme;)I"⟩
abbrev cX4_priceOn : ByteArray := prog_1_method_43_code
def yX4_priceOn : MethodName := ⟨RX4, "priceOn", "(II)LTakinghall$Price;"⟩
abbrev cX4_centsOf : ByteArray := prog_1_method_44_code
def yX4_centsOf : MethodName := ⟨RX4, "centsOf", "(LTakinghall$Price;)I"⟩
abbrev cX4_worthBy : ByteArray := prog_1_method_45_code
def yX4_worthBy : MethodName := ⟨RX4, "worthBy", "(LTakinghall$Plot;LTakinghall$Price;)I"⟩
abbrev cX4_worthToday : ByteArray := prog_1_method_46_code
def yX4_worthToday : MethodName := ⟨RX4, "worthToday", "(LTakinghall$Plot;)I"⟩
abbrev cX4_isBesideNeeded : ByteArray := prog_1_method_47_code
def yX4_isBesideNeeded : MethodName := ⟨RX4, "isBesideNeeded", "(I)Z"⟩
abbrev cX4_neederOf : ByteArray := prog_1_method_48_code
def yX4_neederOf : MethodName := ⟨RX4, "neederOf", "(LTakinghall$Plot;)LTakinghall$Scheme;"⟩
abbrev cX4_isNeeded : ByteArray := prog_1_method_49_code
def yX4_isNeeded : MethodName := ⟨RX4, "isNeeded", "(LTakinghall$Plot;)Z"⟩
abbrev cX4_isNeededBy : ByteArray := prog_1_method_50_code
def yX4_isNeededBy : MethodName := ⟨RX4, "isNeededBy", "(LTakinghall$Plot;LTakinghall$Scheme;)Z"⟩
abbrev cX4_isFreeAndNeededBy : ByteArray := prog_1_method_51_code
def yX4_isFreeAndNeededBy : MethodName := ⟨RX4, "isFreeAndNeededBy", "(LTakinghall$Plot;LTakinghall$Scheme;)Z"⟩
abbrev cX4_draftOfFreePlot : ByteArray := prog_1_method_52_code
def yX4_draftOfFreePlot : MethodName := ⟨RX4, "draftOfFreePlot", "(LTakinghall$Plot;)LTakinghall$Scheme;"⟩
abbrev cX4_countNeeded : ByteArray := prog_1_method_53_code
def yX4_countNeeded : MethodName := ⟨RX4, "countNeeded", "(LTakinghall$Scheme;)I"⟩
abbrev cX4_countFreeNeeded : ByteArray := prog_1_method_54_code
def yX4_countFreeNeeded : MethodName := ⟨RX4, "countFreeNeeded", "(LTakinghall$Scheme;)I"⟩
abbrev cX4_countWorks : ByteArray := prog_1_method_55_code
def yX4_countWorks : MethodName := ⟨RX4, "countWorks", "()I"⟩
abbrev cX4_countOpenObjections : ByteArray := prog_1_method_56_code
def yX4_countOpenObjections : MethodName := ⟨RX4, "countOpenObjections", "(LTakinghall$Scheme;)I"⟩
abbrev cX4_lowestThatStops : ByteArray := prog_1_method_57_code
def yX4_lowestThatStops : MethodName := ⟨RX4, "lowestThatStops", "(LTakinghall$Scheme;)LTakinghall$Interest;"⟩
abbrev cX4_stops : ByteArray := prog_1_method_58_code
def yX4_stops : MethodName := ⟨RX4, "stops", "(LTakinghall$Interest;)Z"⟩
abbrev cX4_release : ByteArray := prog_1_method_59_code
def yX4_release : MethodName := ⟨RX4, "release", "(LTakinghall$Plot;)V"⟩
abbrev cX4_letGo : ByteArray := prog_1_method_60_code
def yX4_letGo : MethodName := ⟨RX4, "letGo", "(LTakinghall$Plot;)Z"⟩
abbrev cX4_canTellInterest : ByteArray := prog_1_method_61_code
def yX4_canTellInterest : MethodName := ⟨RX4, "canTellInterest", "(LTakinghall$Plot;)Z"⟩
abbrev cX4_tellInterest : ByteArray := prog_1_method_62_code
def yX4_tellInterest : MethodName := ⟨RX4, "tellInterest", "(ILTakinghall$Plot;III)I"⟩
abbrev cX4_sharesOf : ByteArray := prog_1_method_63_code
def yX4_sharesOf : MethodName := ⟨RX4, "sharesOf", "(LTakinghall$Plot;)I"⟩
abbrev cX4_isOver : ByteArray := prog_1_method_64_code
def yX4_isOver : MethodName := ⟨RX4, "isOver", "(LTakinghall$Interest;I)Z"⟩
abbrev cX4_wasTaken : ByteArray := prog_1_method_65_code
def yX4_wasTaken : MethodName := ⟨RX4, "wasTaken", "(LTakinghall$Plot;)Z"⟩
abbrev cX4_take : ByteArray := prog_1_method_66_code
def yX4_take : MethodName := ⟨RX4, "take", "(LTakinghall$Plot;)I"⟩
abbrev cX4_landOf : ByteArray := prog_1_method_67_code
def yX4_landOf : MethodName := ⟨RX4, "landOf", "(LTakinghall$Plot;)I"⟩
abbrev cX4_sumBy : ByteArray := prog_1_method_68_code
def yX4_sumBy : MethodName := ⟨RX4, "sumBy", "(LTakinghall$Interest;I)J"⟩
abbrev cX4_ownerSum : ByteArray := prog_1_method_69_code
def yX4_ownerSum : MethodName := ⟨RX4, "ownerSum", "(LTakinghall$Interest;LTakinghall$Plot;I)I"⟩
abbrev cX4_leaseSum : ByteArray := prog_1_method_70_code
def yX4_leaseSum : MethodName := ⟨RX4, "leaseSum", "(LTakinghall$Interest;LTakinghall$Plot;)I"⟩
abbrev cX4_leftBehindCharges : ByteArray := prog_1_method_71_code
def yX4_leftBehindCharges : MethodName := ⟨RX4, "leftBehindCharges", "(LTakinghall$Plot;II)I"⟩
abbrev cX4_leftForCourt : ByteArray := prog_1_method_72_code
def yX4_leftForCourt : MethodName := ⟨RX4, "leftForCourt", "(LTakinghall$Plot;I)I"⟩
abbrev cX4_owedTo : ByteArray := prog_1_method_73_code
def yX4_owedTo : MethodName := ⟨RX4, "owedTo", "(LTakinghall$Interest;)J"⟩
abbrev cX4_gainOf : ByteArray := prog_1_method_74_code
def yX4_gainOf : MethodName := ⟨RX4, "gainOf", "(LTakinghall$Interest;)J"⟩
abbrev cX4_gainOfRow : ByteArray := prog_1_method_75_code
def yX4_gainOfRow : MethodName := ⟨RX4, "gainOfRow", "(JJ)J"⟩
abbrev cX4_offer : ByteArray := prog_1_method_76_code
def yX4_offer : MethodName := ⟨RX4, "offer", "(LTakinghall$Plot;LTakinghall$Interest;I)V"⟩
abbrev cX4_ownerBehind : ByteArray := prog_1_method_77_code
def yX4_ownerBehind : MethodName := ⟨RX4, "ownerBehind", "(LTakinghall$Plot;LTakinghall$Interest;)LTakinghall$Interest;"⟩
abbrev cX4_comesBehind : ByteArray := prog_1_method_78_code
def yX4_comesBehind : MethodName := ⟨RX4, "comesBehind", "(LTakinghall$Interest;LTakinghall$Interest;)Z"⟩
def RX5 : String := "TakinghallModel"
def TX5 : u_T := fun k => match k with
  | _ => ("", "", "", false)
def tyX5 : Nat → FieldType := fun k => match k with
  | _ => .int
abbrev wsX50 : List Cond := u_ws RX5 TX5 0
theorem nmX5 : ∀ a, a < 0 → ∀ b, b < 0 → a ≠ b → (TX5 a).2.1 ≠ (TX5 b).2.1 := by decide +kernel
theorem tyX5_ok : ∀ k, k < 0 → parseFieldDescriptor (TX5 k).2.2.1 = some (tyX5 k) := by decide +kernel
def RJ9 : String := "java/lang/Math"
def TJ9 : u_T := fun k => match k with
  | _ => ("", "", "", false)
def tyJ9 : Nat → FieldType := fun k => match k with
  | _ => .int
abbrev wsJ90 : List Cond := u_ws RJ9 TJ9 0
theorem nmJ9 : ∀ a, a < 0 → ∀ b, b < 0 → a ≠ b → (TJ9 a).2.1 ≠ (TJ9 b).2.1 := by decide +kernel
theorem tyJ9_ok : ∀ k, k < 0 → parseFieldDescriptor (TJ9 k).2.2.1 = some (tyJ9 k) := by decide +kernel
abbrev cJ9_max_7cf53 : ByteArray := prog_12_method_65_code
def yJ9_max_7cf53 : MethodName := ⟨RJ9, "max", "(II)I"⟩
abbrev cJ9_min_7cf53 : ByteArray := prog_12_method_69_code
def yJ9_min_7cf53 : MethodName := ⟨RJ9, "min", "(II)I"⟩
def RJ0 : String := "java/lang/String"
def TJ0 : u_T := fun k => match k with
  | _ => ("", "", "", false)
def tyJ0 : Nat → FieldType := fun k => match k with
  | _ => .int
abbrev wsJ00 : List Cond := u_ws RJ0 TJ0 0
theorem nmJ0 : ∀ a, a < 0 → ∀ b, b < 0 → a ≠ b → (TJ0 a).2.1 ≠ (TJ0 b).2.1 := by decide +kernel
theorem tyJ0_ok : ∀ k, k < 0 → parseFieldDescriptor (TJ0 k).2.2.1 = some (tyJ0 k) := by decide +kernel
def RL : String := "TakinghallLaw"
abbrev cL_up : ByteArray := method_2_code
def yL_up : MethodName := ⟨RL, "up", "(II)I"⟩
abbrev cL_cell : ByteArray := method_3_code
def yL_cell : MethodName := ⟨RL, "cell", "([II)I"⟩
abbrev cL_plot : ByteArray := method_4_code
def yL_plot : MethodName := ⟨RL, "plot", "(I)I"⟩
abbrev cL_told : ByteArray := method_5_code
def yL_told : MethodName := ⟨RL, "told", "(LTakinghall;IIIII)J"⟩
abbrev cL_act : ByteArray := method_6_code
def yL_act : MethodName := ⟨RL, "act", "(LTakinghall;IIIII)J"⟩
abbrev cL_stops : ByteArray := method_7_code
def yL_stops : MethodName := ⟨RL, "stops", "([I[I[I[I[IIII)I"⟩
abbrev cL_needs : ByteArray := method_8_code
def yL_needs : MethodName := ⟨RL, "needs", "([IIZ)I"⟩
abbrev cL_opens : ByteArray := method_9_code
def yL_opens : MethodName := ⟨RL, "opens", "([I[I[III)I"⟩
abbrev cL_forget : ByteArray := method_10_code
def yL_forget : MethodName := ⟨RL, "forget", "([I[I[I[III)V"⟩
abbrev cL_next : ByteArray := method_11_code
def yL_next : MethodName := ⟨RL, "next", "([I[IIII)I"⟩
abbrev cL_take : ByteArray := method_12_code
def yL_take : MethodName := ⟨RL, "take", "([I[I[I[I[I[I[JIIII)J"⟩
abbrev cL_law : ByteArray := code
def yL_law : MethodName := ⟨RL, "law", "([I)Z"⟩
abbrev cL_beside : ByteArray := method_14_code
def yL_beside : MethodName := ⟨RL, "beside", "([II)Z"⟩
abbrev vwCl : List vw_C := [(RX0, TX0, 15), (RX1, TX1, 11), (RX2, TX2, 3), (RX3, TX3, 6), (RX4, TX4, 12)]
/-- the good words of the tables -/
def wG : List Cond := lw_tbl.filter goodWord
theorem wG_tbl {w : Cond} (h : w ∈ wG) : w ∈ lw_tbl := (List.mem_filter.mp h).1
theorem wG_good {w : Cond} (h : w ∈ wG) : (w.onTables && w.keeps) = true ∨ ∃ ty, w = .arrayClass ty := good_of_word (List.mem_filter.mp h).2
theorem gV {x cd : Cond} {own C : String} {i : Nat} {y : MethodName} (h1 : Cond.methodLink own i y ∈ wG) (h2 : Cond.instanceMethod y ∈ wG) (h3 : Cond.selects C y y ∈ wG) (h4 : Cond.initialized C ∈ wG) (h5 : cd ∈ wG) : GoodIn (x :: wG) (wsV own i C y (cd :: wG)) := by
  have h : ∀ w ∈ wG, w ∈ x :: wG ∧ ((w.onTables && w.keeps) = true ∨ ∃ ty, w = .arrayClass ty) := fun w h => ⟨List.mem_cons_of_mem _ h, wG_good h⟩
  intro w hw
  unfold wsV at hw
  rcases List.mem_append.mp hw with hw | hw
  · simp only [List.mem_cons, List.not_mem_nil, or_false] at hw
    rcases hw with e | e | e | e <;> subst e
    · exact h _ h1
    · exact h _ h2
    · exact h _ h3
    · exact h _ h4
  · rcases List.mem_cons.mp hw with e | e
    · subst e; exact h _ h5
    · exact h _ e
theorem gS {x cd : Cond} {own : String} {i : Nat} {y : MethodName} (h1 : Cond.methodLink own i y ∈ wG) (h2 : Cond.static y ∈ wG) (h4 : Cond.initialized y.cls ∈ wG) (h5 : cd ∈ wG) : GoodIn (x :: wG) (va_wsS own i y (cd :: wG)) := by
  have h : ∀ w ∈ wG, w ∈ x :: wG ∧ ((w.onTables && w.keeps) = true ∨ ∃ ty, w = .arrayClass ty) := fun w h => ⟨List.mem_cons_of_mem _ h, wG_good h⟩
  intro w hw
  unfold va_wsS at hw
  rcases List.mem_append.mp hw with hw | hw
  · simp only [List.mem_cons, List.not_mem_nil, or_false] at hw
    rcases hw with e | e | e <;> subst e
    · exact h _ h1
    · exact h _ h2
    · exact h _ h4
  · rcases List.mem_cons.mp hw with e | e
    · subst e; exact h _ h5
    · exact h _ e
theorem gI {x cd : Cond} (h5 : cd ∈ wG) : GoodIn (x :: wG) (cd :: wG) := by
  intro w hw
  rcases List.mem_cons.mp hw with e | e
  · subst e; exact ⟨List.mem_cons_of_mem _ h5, wG_good h5⟩
  · exact ⟨List.mem_cons_of_mem _ e, wG_good e⟩
