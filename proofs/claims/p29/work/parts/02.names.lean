/-! ===== BEGIN printed: names, fields, word lists, decode rows ===== -/
def RX0 : String := "Postunion$Leg"
def TX0 : u_T := fun k => match k with
  | 0 => ("Postunion$Leg", "one", "LPostunion$Post;", true)
  | 1 => ("Postunion$Leg", "other", "LPostunion$Post;", true)
  | 2 => ("Postunion$Leg", "length", "I", true)
  | _ => ("Postunion$Leg", "isClosed", "Z", false)
def tyX0 : Nat → FieldType := fun k => match k with
  | 0 => .object "Postunion$Post"
  | 1 => .object "Postunion$Post"
  | 2 => .int
  | _ => .boolean
abbrev wsX00 : List Cond := u_ws RX0 TX0 4
theorem nmX0 : ∀ a, a < 4 → ∀ b, b < 4 → a ≠ b → (TX0 a).2.1 ≠ (TX0 b).2.1 := by decide +kernel
theorem tyX0_ok : ∀ k, k < 4 → parseFieldDescriptor (TX0 k).2.2.1 = some (tyX0 k) := by decide +kernel
abbrev cX0_init : ByteArray := prog_2_method_1_code
def yX0_init : MethodName := ⟨RX0, "<init>", "(LPostunion$Post;LPostunion$Post;I)V"⟩
abbrev cX0_farEnd : ByteArray := prog_2_method_2_code
def yX0_farEnd : MethodName := ⟨RX0, "farEnd", "(LPostunion$Post;)LPostunion$Post;"⟩
abbrev cX0_leadsTo : ByteArray := prog_2_method_3_code
def yX0_leadsTo : MethodName := ⟨RX0, "leadsTo", "(I)I"⟩
def RX1 : String := "Postunion$Post"
def TX1 : u_T := fun k => match k with
  | 0 => ("Postunion$Post", "number", "I", true)
  | 1 => ("Postunion$Post", "firstRates", "[I", true)
  | 2 => ("Postunion$Post", "furtherRates", "[I", true)
  | 3 => ("Postunion$Post", "dues", "[I", true)
  | 4 => ("Postunion$Post", "countedFor", "[J", true)
  | 5 => ("Postunion$Post", "chargeTold", "I", false)
  | 6 => ("Postunion$Post", "couponPrice", "I", false)
  | 7 => ("Postunion$Post", "isStriking", "Z", false)
  | 8 => ("Postunion$Post", "accountCents", "J", false)
  | _ => ("Postunion$Post", "tillCents", "J", false)
def tyX1 : Nat → FieldType := fun k => match k with
  | 0 => .int
  | 1 => .array .int
  | 2 => .array .int
  | 3 => .array .int
  | 4 => .array .long
  | 5 => .int
  | 6 => .int
  | 7 => .boolean
  | 8 => .long
  | _ => .long
abbrev wsX10 : List Cond := u_ws RX1 TX1 10
theorem nmX1 : ∀ a, a < 10 → ∀ b, b < 10 → a ≠ b → (TX1 a).2.1 ≠ (TX1 b).2.1 := by decide +kernel
theorem tyX1_ok : ∀ k, k < 10 → parseFieldDescriptor (TX1 k).2.2.1 = some (tyX1 k) := by decide +kernel
abbrev cX1_init : ByteArray := prog_3_method_1_code
def yX1_init : MethodName := ⟨RX1, "<init>", "(I)V"⟩
abbrev cX1_rateOf : ByteArray := prog_3_method_2_code
def yX1_rateOf : MethodName := ⟨RX1, "rateOf", "(IIZ)I"⟩
abbrev cX1_chargeFor : ByteArray := prog_3_method_3_code
def yX1_chargeFor : MethodName := ⟨RX1, "chargeFor", "(I)J"⟩
def RX2 : String := "Postunion$Routes"
def TX2 : u_T := fun k => match k with
  | 0 => ("Postunion$Routes", "legs", "[LPostunion$Leg;", true)
  | 1 => ("Postunion$Routes", "direct", "[I", true)
  | 2 => ("Postunion$Routes", "least", "[I", true)
  | 3 => ("Postunion$Routes", "onward", "[I", true)
  | _ => ("Postunion$Routes", "legCount", "I", false)
def tyX2 : Nat → FieldType := fun k => match k with
  | 0 => .array (.object "Postunion$Leg")
  | 1 => .array .int
  | 2 => .array .int
  | 3 => .array .int
  | _ => .int
abbrev wsX20 : List Cond := u_ws RX2 TX2 5
theorem nmX2 : ∀ a, a < 5 → ∀ b, b < 5 → a ≠ b → (TX2 a).2.1 ≠ (TX2 b).2.1 := by decide +kernel
theorem tyX2_ok : ∀ k, k < 5 → parseFieldDescriptor (TX2 k).2.2.1 = some (tyX2 k) := by decide +kernel
abbrev cX2_init : ByteArray := prog_4_method_1_code
def yX2_init : MethodName := ⟨RX2, "<init>", "()V"⟩
abbrev cX2_addLeg : ByteArray := prog_4_method_2_code
def yX2_addLeg : MethodName := ⟨RX2, "addLeg", "(LPostunion$Post;LPostunion$Post;I)I"⟩
abbrev cX2_legOf : ByteArray := prog_4_method_3_code
def yX2_legOf : MethodName := ⟨RX2, "legOf", "(I)LPostunion$Leg;"⟩
abbrev cX2_setClosed : ByteArray := prog_4_method_4_code
def yX2_setClosed : MethodName := ⟨RX2, "setClosed", "(LPostunion$Leg;Z)Z"⟩
abbrev cX2_leastDays : ByteArray := prog_4_method_5_code
def yX2_leastDays : MethodName := ⟨RX2, "leastDays", "(LPostunion$Post;LPostunion$Post;)I"⟩
abbrev cX2_leastDaysOfAllWays : ByteArray := prog_4_method_6_code
def yX2_leastDaysOfAllWays : MethodName := ⟨RX2, "leastDaysOfAllWays", "(LPostunion$Post;LPostunion$Post;)I"⟩
abbrev cX2_onwardLeg : ByteArray := prog_4_method_7_code
def yX2_onwardLeg : MethodName := ⟨RX2, "onwardLeg", "(LPostunion$Post;LPostunion$Post;)I"⟩
abbrev cX2_cell : ByteArray := prog_4_method_8_code
def yX2_cell : MethodName := ⟨RX2, "cell", "(II)I"⟩
abbrev cX2_noneIfFar : ByteArray := prog_4_method_9_code
def yX2_noneIfFar : MethodName := ⟨RX2, "noneIfFar", "(I)I"⟩
abbrev cX2_leastOfWays : ByteArray := prog_4_method_10_code
def yX2_leastOfWays : MethodName := ⟨RX2, "leastOfWays", "([IIIII)I"⟩
abbrev cX2_reckon : ByteArray := prog_4_method_11_code
def yX2_reckon : MethodName := ⟨RX2, "reckon", "()V"⟩
abbrev cX2_reckonDirect : ByteArray := prog_4_method_12_code
def yX2_reckonDirect : MethodName := ⟨RX2, "reckonDirect", "()V"⟩
abbrev cX2_shorten : ByteArray := prog_4_method_13_code
def yX2_shorten : MethodName := ⟨RX2, "shorten", "(III)V"⟩
abbrev cX2_reckonLeast : ByteArray := prog_4_method_14_code
def yX2_reckonLeast : MethodName := ⟨RX2, "reckonLeast", "()V"⟩
abbrev cX2_reckonOnward : ByteArray := prog_4_method_15_code
def yX2_reckonOnward : MethodName := ⟨RX2, "reckonOnward", "()V"⟩
abbrev cX2_firstLegOf : ByteArray := prog_4_method_16_code
def yX2_firstLegOf : MethodName := ⟨RX2, "firstLegOf", "(II)I"⟩
def RX3 : String := "Postunion$Thing"
def TX3 : u_T := fun k => match k with
  | 0 => ("Postunion$Thing", "kind", "I", true)
  | 1 => ("Postunion$Thing", "origin", "LPostunion$Post;", true)
  | 2 => ("Postunion$Thing", "grams", "I", true)
  | 3 => ("Postunion$Thing", "lacking", "I", true)
  | 4 => ("Postunion$Thing", "isRegistered", "Z", true)
  | 5 => ("Postunion$Thing", "target", "LPostunion$Post;", false)
  | 6 => ("Postunion$Thing", "place", "LPostunion$Post;", false)
  | 7 => ("Postunion$Thing", "leg", "LPostunion$Leg;", false)
  | 8 => ("Postunion$Thing", "state", "I", false)
  | 9 => ("Postunion$Thing", "daysLeft", "I", false)
  | 10 => ("Postunion$Thing", "isRefused", "Z", false)
  | 11 => ("Postunion$Thing", "isBack", "Z", false)
  | 12 => ("Postunion$Thing", "isClaimed", "Z", false)
  | 13 => ("Postunion$Thing", "hands", "[I", false)
  | _ => ("Postunion$Thing", "handCount", "I", false)
def tyX3 : Nat → FieldType := fun k => match k with
  | 0 => .int
  | 1 => .object "Postunion$Post"
  | 2 => .int
  | 3 => .int
  | 4 => .boolean
  | 5 => .object "Postunion$Post"
  | 6 => .object "Postunion$Post"
  | 7 => .object "Postunion$Leg"
  | 8 => .int
  | 9 => .int
  | 10 => .boolean
  | 11 => .boolean
  | 12 => .boolean
  | 13 => .array .int
  | _ => .int
abbrev wsX30 : List Cond := u_ws RX3 TX3 15
theorem nmX3 : ∀ a, a < 15 → ∀ b, b < 15 → a ≠ b → (TX3 a).2.1 ≠ (TX3 b).2.1 := by decide +kernel
theorem tyX3_ok : ∀ k, k < 15 → parseFieldDescriptor (TX3 k).2.2.1 = some (tyX3 k) := by decide +kernel
abbrev cX3_init : ByteArray := prog_5_method_1_code
def yX3_init : MethodName := ⟨RX3, "<init>", "(ILPostunion$Post;LPostunion$Post;IIZ)V"⟩
abbrev cX3_isUnderWay : ByteArray := prog_5_method_2_code
def yX3_isUnderWay : MethodName := ⟨RX3, "isUnderWay", "()Z"⟩
abbrev cX3_taxOfNow : ByteArray := prog_5_method_3_code
def yX3_taxOfNow : MethodName := ⟨RX3, "taxOfNow", "()J"⟩
abbrev cX3_departOn : ByteArray := prog_5_method_4_code
def yX3_departOn : MethodName := ⟨RX3, "departOn", "(LPostunion$Leg;)V"⟩
abbrev cX3_arrivesToday : ByteArray := prog_5_method_5_code
def yX3_arrivesToday : MethodName := ⟨RX3, "arrivesToday", "()Z"⟩
abbrev cX3_latestHand : ByteArray := prog_5_method_6_code
def yX3_latestHand : MethodName := ⟨RX3, "latestHand", "()I"⟩
abbrev cX3_sign : ByteArray := prog_5_method_7_code
def yX3_sign : MethodName := ⟨RX3, "sign", "()V"⟩
def RX4 : String := "Postunion"
def TX4 : u_T := fun k => match k with
  | 0 => ("Postunion", "posts", "[LPostunion$Post;", true)
  | 1 => ("Postunion", "things", "[LPostunion$Thing;", true)
  | 2 => ("Postunion", "routes", "LPostunion$Routes;", true)
  | 3 => ("Postunion", "postCount", "I", false)
  | 4 => ("Postunion", "thingCount", "I", false)
  | _ => ("Postunion", "isOfSamples", "Z", false)
def tyX4 : Nat → FieldType := fun k => match k with
  | 0 => .array (.object "Postunion$Post")
  | 1 => .array (.object "Postunion$Thing")
  | 2 => .object "Postunion$Routes"
  | 3 => .int
  | 4 => .int
  | _ => .boolean
abbrev wsX40 : List Cond := u_ws RX4 TX4 6
theorem nmX4 : ∀ a, a < 6 → ∀ b, b < 6 → a ≠ b → (TX4 a).2.1 ≠ (TX4 b).2.1 := by decide +kernel
theorem tyX4_ok : ∀ k, k < 6 → parseFieldDescriptor (TX4 k).2.2.1 = some (tyX4 k) := by decide +kernel
abbrev cX4_init : ByteArray := prog_1_method_1_code
def yX4_init : MethodName := ⟨RX4, "<init>", "()V"⟩
abbrev cX4_post : ByteArray := prog_1_method_2_code
def yX4_post : MethodName := ⟨RX4, "post", "()I"⟩
abbrev cX4_rates : ByteArray := prog_1_method_3_code
def yX4_rates : MethodName := ⟨RX4, "rates", "(IIII)V"⟩
abbrev cX4_due : ByteArray := prog_1_method_4_code
def yX4_due : MethodName := ⟨RX4, "due", "(III)I"⟩
abbrev cX4_charge : ByteArray := prog_1_method_5_code
def yX4_charge : MethodName := ⟨RX4, "charge", "(II)I"⟩
abbrev cX4_coupon : ByteArray := prog_1_method_6_code
def yX4_coupon : MethodName := ⟨RX4, "coupon", "(II)I"⟩
abbrev cX4_strike : ByteArray := prog_1_method_7_code
def yX4_strike : MethodName := ⟨RX4, "strike", "(IZ)Z"⟩
abbrev cX4_leg : ByteArray := prog_1_method_8_code
def yX4_leg : MethodName := ⟨RX4, "leg", "(III)I"⟩
abbrev cX4_close : ByteArray := prog_1_method_9_code
def yX4_close : MethodName := ⟨RX4, "close", "(IZ)Z"⟩
abbrev cX4_days : ByteArray := prog_1_method_10_code
def yX4_days : MethodName := ⟨RX4, "days", "(II)I"⟩
abbrev cX4_daysAnew : ByteArray := prog_1_method_11_code
def yX4_daysAnew : MethodName := ⟨RX4, "daysAnew", "(II)I"⟩
abbrev cX4_next : ByteArray := prog_1_method_12_code
def yX4_next : MethodName := ⟨RX4, "next", "(II)I"⟩
abbrev cX4_mail : ByteArray := prog_1_method_13_code
def yX4_mail : MethodName := ⟨RX4, "mail", "(IIIIIZ)I"⟩
abbrev cX4_redirect : ByteArray := prog_1_method_14_code
def yX4_redirect : MethodName := ⟨RX4, "redirect", "(II)I"⟩
abbrev cX4_refuse : ByteArray := prog_1_method_15_code
def yX4_refuse : MethodName := ⟨RX4, "refuse", "(IZ)Z"⟩
abbrev cX4_go : ByteArray := prog_1_method_16_code
def yX4_go : MethodName := ⟨RX4, "go", "(I)I"⟩
abbrev cX4_lose : ByteArray := prog_1_method_17_code
def yX4_lose : MethodName := ⟨RX4, "lose", "(I)I"⟩
abbrev cX4_claim : ByteArray := prog_1_method_18_code
def yX4_claim : MethodName := ⟨RX4, "claim", "(I)I"⟩
abbrev cX4_sample : ByteArray := prog_1_method_19_code
def yX4_sample : MethodName := ⟨RX4, "sample", "(Z)Z"⟩
abbrev cX4_settle : ByteArray := prog_1_method_20_code
def yX4_settle : MethodName := ⟨RX4, "settle", "(I)J"⟩
abbrev cX4_rate : ByteArray := prog_1_method_21_code
def yX4_rate : MethodName := ⟨RX4, "rate", "(IIIZ)I"⟩
abbrev cX4_ofThing : ByteArray := prog_1_method_22_code
def yX4_ofThing : MethodName := ⟨RX4, "ofThing", "(II)J"⟩
abbrev cX4_hand : ByteArray := prog_1_method_23_code
def yX4_hand : MethodName := ⟨RX4, "hand", "(II)I"⟩
abbrev cX4_account : ByteArray := prog_1_method_24_code
def yX4_account : MethodName := ⟨RX4, "account", "(I)J"⟩
abbrev cX4_till : ByteArray := prog_1_method_25_code
def yX4_till : MethodName := ⟨RX4, "till", "(I)J"⟩
abbrev cX4_counted : ByteArray := prog_1_method_26_code
def yX4_counted : MethodName := ⟨RX4, "counted", "(II)J"⟩
abbrev cX4_gain : ByteArray := prog_1_method_27_code
def yX4_gain : MethodName := ⟨RX4, "gain", "(I)I"⟩
abbrev cX4_postOf : ByteArray := prog_1_method_28_code
def yX4_postOf : MethodName := ⟨RX4, "postOf", "(I)LPostunion$Post;"⟩
abbrev cX4_thingOf : ByteArray := prog_1_method_29_code
def yX4_thingOf : MethodName := ⟨RX4, "thingOf", "(I)LPostunion$Thing;"⟩
abbrev cX4_demandWithin : ByteArray := prog_1_method_30_code
def yX4_demandWithin : MethodName := ⟨RX4, "demandWithin", "(III)V"⟩
abbrev cX4_demandKind : ByteArray := prog_1_method_31_code
def yX4_demandKind : MethodName := ⟨RX4, "demandKind", "(I)V"⟩
abbrev cX4_demandGrams : ByteArray := prog_1_method_32_code
def yX4_demandGrams : MethodName := ⟨RX4, "demandGrams", "(II)V"⟩
abbrev cX4_demandChangeable : ByteArray := prog_1_method_33_code
def yX4_demandChangeable : MethodName := ⟨RX4, "demandChangeable", "(LPostunion$Thing;)V"⟩
abbrev cX4_moveThoseThatTravel : ByteArray := prog_1_method_34_code
def yX4_moveThoseThatTravel : MethodName := ⟨RX4, "moveThoseThatTravel", "()I"⟩
abbrev cX4_endAtTarget : ByteArray := prog_1_method_35_code
def yX4_endAtTarget : MethodName := ⟨RX4, "endAtTarget", "(LPostunion$Thing;)V"⟩
abbrev cX4_oweDue : ByteArray := prog_1_method_36_code
def yX4_oweDue : MethodName := ⟨RX4, "oweDue", "(LPostunion$Thing;)V"⟩
abbrev cX4_sendThoseThatWait : ByteArray := prog_1_method_37_code
def yX4_sendThoseThatWait : MethodName := ⟨RX4, "sendThoseThatWait", "()V"⟩
abbrev cX4_sendOn : ByteArray := prog_1_method_38_code
def yX4_sendOn : MethodName := ⟨RX4, "sendOn", "(LPostunion$Thing;)V"⟩
abbrev cX4_pay : ByteArray := prog_1_method_39_code
def yX4_pay : MethodName := ⟨RX4, "pay", "(LPostunion$Post;LPostunion$Post;J)V"⟩
abbrev cX4_payClaim : ByteArray := prog_1_method_40_code
def yX4_payClaim : MethodName := ⟨RX4, "payClaim", "(LPostunion$Post;LPostunion$Post;I)I"⟩
abbrev cX4_settlePair : ByteArray := prog_1_method_41_code
def yX4_settlePair : MethodName := ⟨RX4, "settlePair", "(LPostunion$Post;LPostunion$Post;I)J"⟩
abbrev cX4_gainOf : ByteArray := prog_1_method_42_code
def yX4_gainOf : MethodName := ⟨RX4, "gainOf", "(LPostunion$Post;LPostunion$Post;)I"⟩
abbrev cX4_begunParts : ByteArray := prog_1_method_43_code
def yX4_begunParts : MethodName := ⟨RX4, "begunParts", "(II)I"⟩
def RX5 : String := "PostunionModel"
def TX5 : u_T := fun k => match k with
  | _ => ("", "", "", false)
def tyX5 : Nat → FieldType := fun k => match k with
  | _ => .int
abbrev wsX50 : List Cond := u_ws RX5 TX5 0
theorem nmX5 : ∀ a, a < 0 → ∀ b, b < 0 → a ≠ b → (TX5 a).2.1 ≠ (TX5 b).2.1 := by decide +kernel
theorem tyX5_ok : ∀ k, k < 0 → parseFieldDescriptor (TX5 k).2.2.1 = some (tyX5 k) := by decide +kernel
def RJx145de : String := "java/io/Serializable"
def TJx145de : u_T := fun k => match k with
  | _ => ("", "", "", false)
def tyJx145de : Nat → FieldType := fun k => match k with
  | _ => .int
abbrev wsJx145de0 : List Cond := u_ws RJx145de TJx145de 0
theorem nmJx145de : ∀ a, a < 0 → ∀ b, b < 0 → a ≠ b → (TJx145de a).2.1 ≠ (TJx145de b).2.1 := by decide +kernel
theorem tyJx145de_ok : ∀ k, k < 0 → parseFieldDescriptor (TJx145de k).2.2.1 = some (tyJx145de k) := by decide +kernel
def RJx8e188 : String := "java/lang/Cloneable"
def TJx8e188 : u_T := fun k => match k with
  | _ => ("", "", "", false)
def tyJx8e188 : Nat → FieldType := fun k => match k with
  | _ => .int
abbrev wsJx8e1880 : List Cond := u_ws RJx8e188 TJx8e188 0
theorem nmJx8e188 : ∀ a, a < 0 → ∀ b, b < 0 → a ≠ b → (TJx8e188 a).2.1 ≠ (TJx8e188 b).2.1 := by decide +kernel
theorem tyJx8e188_ok : ∀ k, k < 0 → parseFieldDescriptor (TJx8e188 k).2.2.1 = some (tyJx8e188 k) := by decide +kernel
def RJ9 : String := "java/lang/Math"
def TJ9 : u_T := fun k => match k with
  | _ => ("", "", "", false)
def tyJ9 : Nat → FieldType := fun k => match k with
  | _ => .int
abbrev wsJ90 : List Cond := u_ws RJ9 TJ9 0
theorem nmJ9 : ∀ a, a < 0 → ∀ b, b < 0 → a ≠ b → (TJ9 a).2.1 ≠ (TJ9 b).2.1 := by decide +kernel
theorem tyJ9_ok : ∀ k, k < 0 → parseFieldDescriptor (TJ9 k).2.2.1 = some (tyJ9 k) := by decide +kernel
abbrev cJ9_max_7cf53 : ByteArray := prog_13_method_65_code
def yJ9_max_7cf53 : MethodName := ⟨RJ9, "max", "(II)I"⟩
abbrev cJ9_min_7cf53 : ByteArray := prog_13_method_69_code
def yJ9_min_7cf53 : MethodName := ⟨RJ9, "min", "(II)I"⟩
def RJ0 : String := "java/lang/String"
def TJ0 : u_T := fun k => match k with
  | _ => ("", "", "", false)
def tyJ0 : Nat → FieldType := fun k => match k with
  | _ => .int
abbrev wsJ00 : List Cond := u_ws RJ0 TJ0 0
theorem nmJ0 : ∀ a, a < 0 → ∀ b, b < 0 → a ≠ b → (TJ0 a).2.1 ≠ (TJ0 b).2.1 := by decide +kernel
theorem tyJ0_ok : ∀ k, k < 0 → parseFieldDescriptor (TJ0 k).2.2.1 = some (tyJ0 k) := by decide +kernel
def RJ10 : String := "java/lang/System"
def TJ10 : u_T := fun k => match k with
  | _ => ("", "", "", false)
def tyJ10 : Nat → FieldType := fun k => match k with
  | _ => .int
abbrev wsJ100 : List Cond := u_ws RJ10 TJ10 0
theorem nmJ10 : ∀ a, a < 0 → ∀ b, b < 0 → a ≠ b → (TJ10 a).2.1 ≠ (TJ10 b).2.1 := by decide +kernel
theorem tyJ10_ok : ∀ k, k < 0 → parseFieldDescriptor (TJ10 k).2.2.1 = some (tyJ10 k) := by decide +kernel
def RJ7 : String := "java/util/Arrays"
def TJ7 : u_T := fun k => match k with
  | _ => ("", "", "", false)
def tyJ7 : Nat → FieldType := fun k => match k with
  | _ => .int
abbrev wsJ70 : List Cond := u_ws RJ7 TJ7 0
theorem nmJ7 : ∀ a, a < 0 → ∀ b, b < 0 → a ≠ b → (TJ7 a).2.1 ≠ (TJ7 b).2.1 := by decide +kernel
theorem tyJ7_ok : ∀ k, k < 0 → parseFieldDescriptor (TJ7 k).2.2.1 = some (tyJ7 k) := by decide +kernel
abbrev cJ7_fill_53178 : ByteArray := prog_18_method_103_code
def yJ7_fill_53178 : MethodName := ⟨RJ7, "fill", "([II)V"⟩
abbrev cJ7_copyOf_59c91 : ByteArray := prog_18_method_123_code
def yJ7_copyOf_59c91 : MethodName := ⟨RJ7, "copyOf", "([II)[I"⟩
def RL : String := "PostunionLaw"
abbrev cL_cell : ByteArray := method_2_code
def yL_cell : MethodName := ⟨RL, "cell", "([II)I"⟩
abbrev cL_some : ByteArray := method_3_code
def yL_some : MethodName := ⟨RL, "some", "(II)I"⟩
abbrev cL_call : ByteArray := method_4_code
def yL_call : MethodName := ⟨RL, "call", "(LPostunion;IIIII)I"⟩
abbrev cL_does : ByteArray := method_5_code
def yL_does : MethodName := ⟨RL, "does", "(LPostunion;IIIII)I"⟩
abbrev cL_mail : ByteArray := method_6_code
def yL_mail : MethodName := ⟨RL, "mail", "(LPostunion;IIIIII)I"⟩
abbrev cL_long0 : ByteArray := method_7_code
def yL_long0 : MethodName := ⟨RL, "long0", "(LPostunion;III)J"⟩
abbrev cL_all : ByteArray := method_8_code
def yL_all : MethodName := ⟨RL, "all", "(LPostunion;[I)J"⟩
abbrev cL_both : ByteArray := method_9_code
def yL_both : MethodName := ⟨RL, "both", "(LPostunion;LPostunion;IIIII)I"⟩
abbrev cL_sums : ByteArray := method_10_code
def yL_sums : MethodName := ⟨RL, "sums", "(LPostunion;[II)J"⟩
abbrev cL_posts : ByteArray := method_11_code
def yL_posts : MethodName := ⟨RL, "posts", "(LPostunion;LPostunion;[III)Z"⟩
abbrev cL_ways : ByteArray := method_12_code
def yL_ways : MethodName := ⟨RL, "ways", "(LPostunion;LPostunion;[II)Z"⟩
abbrev cL_mails : ByteArray := method_13_code
def yL_mails : MethodName := ⟨RL, "mails", "(LPostunion;LPostunion;[II)Z"⟩
abbrev cL_goes : ByteArray := method_14_code
def yL_goes : MethodName := ⟨RL, "goes", "(LPostunion;LPostunion;[II)Z"⟩
abbrev cL_things : ByteArray := method_15_code
def yL_things : MethodName := ⟨RL, "things", "(LPostunion;LPostunion;[III)Z"⟩
abbrev cL_settles : ByteArray := method_16_code
def yL_settles : MethodName := ⟨RL, "settles", "(LPostunion;LPostunion;[III)Z"⟩
abbrev cL_refused : ByteArray := method_17_code
def yL_refused : MethodName := ⟨RL, "refused", "(LPostunion;[I)Z"⟩
abbrev cL_law : ByteArray := code
def yL_law : MethodName := ⟨RL, "law", "([I)Z"⟩
abbrev vwCl : List vw_C := [(RX0, TX0, 4), (RX1, TX1, 10), (RX2, TX2, 5), (RX3, TX3, 15), (RX4, TX4, 6)]
def xdec (cc : ByteArray) (l : List (Nat × Instr × Nat)) : Bool := l.all fun q => decide (decode cc q.1 = .ok (q.2.1, q.2.2))
theorem xdec_at {cc : ByteArray} {l : List (Nat × Instr × Nat)} (h : xdec cc l = true) (i : Nat) {pc n : Nat} {ins : Instr} (hi : l[i]? = some (pc, ins, n)) : decode cc pc = .ok (ins, n) := by
  have h1 := List.all_eq_true.mp h (pc, ins, n) (List.mem_of_getElem? hi)
  simp only [decide_eq_true_eq] at h1
  exact h1
