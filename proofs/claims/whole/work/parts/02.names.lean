def RX0 : String := "Burrowline$End"
def TX0 : u_T := fun k => match k with
  | 0 => ("Burrowline$End", "number", "I", true)
  | 1 => ("Burrowline$End", "secret", "I", true)
  | 2 => ("Burrowline$End", "links", "[LBurrowline$Link;", true)
  | 3 => ("Burrowline$End", "routes", "Ljava/util/ArrayList;", true)
  | 4 => ("Burrowline$End", "outs", "Ljava/util/ArrayList;", true)
  | 5 => ("Burrowline$End", "address", "I", false)
  | _ => ("Burrowline$End", "isLoaded", "Z", false)
def tyX0 : Nat → FieldType := fun k => match k with
  | 0 => .int
  | 1 => .int
  | 2 => .array (.object "Burrowline$Link")
  | 3 => .object "java/util/ArrayList"
  | 4 => .object "java/util/ArrayList"
  | 5 => .int
  | _ => .boolean
theorem nmX0 : ∀ a, a < 7 → ∀ b, b < 7 → a ≠ b → (TX0 a).2.1 ≠ (TX0 b).2.1 := by decide +kernel
theorem tyX0_ok : ∀ k, k < 7 → parseFieldDescriptor (TX0 k).2.2.1 = some (tyX0 k) := by decide +kernel
abbrev cX0_init : ByteArray := prog_2_method_1_code
def yX0_init : MethodName := ⟨RX0, "<init>", "(I)V"⟩
abbrev cX0_linkTo : ByteArray := prog_2_method_2_code
def yX0_linkTo : MethodName := ⟨RX0, "linkTo", "(I)LBurrowline$Link;"⟩
abbrev cX0_linkWithFlight : ByteArray := prog_2_method_3_code
def yX0_linkWithFlight : MethodName := ⟨RX0, "linkWithFlight", "(I)LBurrowline$Link;"⟩
abbrev cX0_linkWithSession : ByteArray := prog_2_method_4_code
def yX0_linkWithSession : MethodName := ⟨RX0, "linkWithSession", "(I)LBurrowline$Link;"⟩
abbrev cX0_placeOfRoute : ByteArray := prog_2_method_5_code
def yX0_placeOfRoute : MethodName := ⟨RX0, "placeOfRoute", "(II)I"⟩
abbrev cX0_peerFor : ByteArray := prog_2_method_6_code
def yX0_peerFor : MethodName := ⟨RX0, "peerFor", "(I)I"⟩
def RX1 : String := "Burrowline$Flight"
def TX1 : u_T := fun k => match k with
  | 0 => ("Burrowline$Flight", "index", "I", true)
  | 1 => ("Burrowline$Flight", "secret", "I", true)
  | 2 => ("Burrowline$Flight", "tag", "I", true)
  | _ => ("Burrowline$Flight", "sent", "I", true)
def tyX1 : Nat → FieldType := fun k => match k with
  | 0 => .int
  | 1 => .int
  | 2 => .int
  | _ => .int
theorem nmX1 : ∀ a, a < 4 → ∀ b, b < 4 → a ≠ b → (TX1 a).2.1 ≠ (TX1 b).2.1 := by decide +kernel
theorem tyX1_ok : ∀ k, k < 4 → parseFieldDescriptor (TX1 k).2.2.1 = some (tyX1 k) := by decide +kernel
abbrev cX1_init : ByteArray := prog_3_method_1_code
def yX1_init : MethodName := ⟨RX1, "<init>", "(IIII)V"⟩
def RX2 : String := "Burrowline$Letter"
def TX2 : u_T := fun k => match k with
  | 0 => ("Burrowline$Letter", "kind", "I", true)
  | 1 => ("Burrowline$Letter", "to", "I", true)
  | 2 => ("Burrowline$Letter", "tagPlace", "I", true)
  | 3 => ("Burrowline$Letter", "fields", "[I", true)
  | 4 => ("Burrowline$Letter", "from", "I", false)
  | 5 => ("Burrowline$Letter", "key", "I", false)
  | 6 => ("Burrowline$Letter", "turnedField", "I", false)
  | _ => ("Burrowline$Letter", "original", "I", false)
def tyX2 : Nat → FieldType := fun k => match k with
  | 0 => .int
  | 1 => .int
  | 2 => .int
  | 3 => .array .int
  | 4 => .int
  | 5 => .int
  | 6 => .int
  | _ => .int
theorem nmX2 : ∀ a, a < 8 → ∀ b, b < 8 → a ≠ b → (TX2 a).2.1 ≠ (TX2 b).2.1 := by decide +kernel
theorem tyX2_ok : ∀ k, k < 8 → parseFieldDescriptor (TX2 k).2.2.1 = some (tyX2 k) := by decide +kernel
abbrev cX2_init : ByteArray := prog_4_method_1_code
def yX2_init : MethodName := ⟨RX2, "<init>", "(III)V"⟩
abbrev cX2_tagPlaceOf : ByteArray := prog_4_method_2_code
def yX2_tagPlaceOf : MethodName := ⟨RX2, "tagPlaceOf", "(I)I"⟩
abbrev cX2_twin : ByteArray := prog_4_method_3_code
def yX2_twin : MethodName := ⟨RX2, "twin", "()LBurrowline$Letter;"⟩
abbrev cX2_fieldAt : ByteArray := prog_4_method_4_code
def yX2_fieldAt : MethodName := ⟨RX2, "fieldAt", "(I)I"⟩
abbrev cX2_put : ByteArray := prog_4_method_5_code
def yX2_put : MethodName := ⟨RX2, "put", "(II)V"⟩
abbrev cX2_tag : ByteArray := prog_4_method_6_code
def yX2_tag : MethodName := ⟨RX2, "tag", "()I"⟩
abbrev cX2_sealWith : ByteArray := prog_4_method_7_code
def yX2_sealWith : MethodName := ⟨RX2, "sealWith", "(I)I"⟩
abbrev cX2_isRightBy : ByteArray := prog_4_method_8_code
def yX2_isRightBy : MethodName := ⟨RX2, "isRightBy", "(I)Z"⟩
abbrev cX2_canTurn : ByteArray := prog_4_method_9_code
def yX2_canTurn : MethodName := ⟨RX2, "canTurn", "(I)Z"⟩
abbrev cX2_turnBy : ByteArray := prog_4_method_10_code
def yX2_turnBy : MethodName := ⟨RX2, "turnBy", "(II)I"⟩
abbrev cX2_differs : ByteArray := prog_4_method_11_code
def yX2_differs : MethodName := ⟨RX2, "differs", "()Z"⟩
def RX3 : String := "Burrowline$Link"
def TX3 : u_T := fun k => match k with
  | 0 => ("Burrowline$Link", "peer", "I", true)
  | 1 => ("Burrowline$Link", "peerPublic", "I", true)
  | 2 => ("Burrowline$Link", "lastingShared", "I", true)
  | 3 => ("Burrowline$Link", "waiting", "Ljava/util/ArrayList;", true)
  | 4 => ("Burrowline$Link", "known", "I", false)
  | 5 => ("Burrowline$Link", "previous", "LBurrowline$Session;", false)
  | 6 => ("Burrowline$Link", "current", "LBurrowline$Session;", false)
  | 7 => ("Burrowline$Link", "next", "LBurrowline$Session;", false)
  | 8 => ("Burrowline$Link", "flight", "LBurrowline$Flight;", false)
  | 9 => ("Burrowline$Link", "stampTaken", "I", false)
  | 10 => ("Burrowline$Link", "stampSent", "I", false)
  | 11 => ("Burrowline$Link", "cookie", "I", false)
  | _ => ("Burrowline$Link", "cookieCame", "I", false)
def tyX3 : Nat → FieldType := fun k => match k with
  | 0 => .int
  | 1 => .int
  | 2 => .int
  | 3 => .object "java/util/ArrayList"
  | 4 => .int
  | 5 => .object "Burrowline$Session"
  | 6 => .object "Burrowline$Session"
  | 7 => .object "Burrowline$Session"
  | 8 => .object "Burrowline$Flight"
  | 9 => .int
  | 10 => .int
  | 11 => .int
  | _ => .int
theorem nmX3 : ∀ a, a < 13 → ∀ b, b < 13 → a ≠ b → (TX3 a).2.1 ≠ (TX3 b).2.1 := by decide +kernel
theorem tyX3_ok : ∀ k, k < 13 → parseFieldDescriptor (TX3 k).2.2.1 = some (tyX3 k) := by decide +kernel
abbrev cX3_init : ByteArray := prog_5_method_1_code
def yX3_init : MethodName := ⟨RX3, "<init>", "(II)V"⟩
abbrev cX3_sessionAt : ByteArray := prog_5_method_2_code
def yX3_sessionAt : MethodName := ⟨RX3, "sessionAt", "(I)LBurrowline$Session;"⟩
abbrev cX3_sessionWith : ByteArray := prog_5_method_3_code
def yX3_sessionWith : MethodName := ⟨RX3, "sessionWith", "(I)LBurrowline$Session;"⟩
abbrev cX3_flightIndex : ByteArray := prog_5_method_4_code
def yX3_flightIndex : MethodName := ⟨RX3, "flightIndex", "()I"⟩
def RX4 : String := "Burrowline$Numbers"
def TX4 : u_T := fun k => match k with
  | _ => ("", "", "", false)
def tyX4 : Nat → FieldType := fun k => match k with
  | _ => .int
theorem nmX4 : ∀ a, a < 0 → ∀ b, b < 0 → a ≠ b → (TX4 a).2.1 ≠ (TX4 b).2.1 := by decide +kernel
theorem tyX4_ok : ∀ k, k < 0 → parseFieldDescriptor (TX4 k).2.2.1 = some (tyX4 k) := by decide +kernel
abbrev cX4_power : ByteArray := prog_6_method_2_code
def yX4_power : MethodName := ⟨RX4, "power", "(II)I"⟩
abbrev cX4_publicNumber : ByteArray := prog_6_method_3_code
def yX4_publicNumber : MethodName := ⟨RX4, "publicNumber", "(I)I"⟩
abbrev cX4_secretOf : ByteArray := prog_6_method_4_code
def yX4_secretOf : MethodName := ⟨RX4, "secretOf", "(I)I"⟩
abbrev cX4_secretOfEnd : ByteArray := prog_6_method_5_code
def yX4_secretOfEnd : MethodName := ⟨RX4, "secretOfEnd", "(I)I"⟩
abbrev cX4_mix : ByteArray := prog_6_method_6_code
def yX4_mix : MethodName := ⟨RX4, "mix", "(III)I"⟩
abbrev cX4_mixOfFour : ByteArray := prog_6_method_7_code
def yX4_mixOfFour : MethodName := ⟨RX4, "mixOfFour", "(IIII)I"⟩
abbrev cX4_mixed : ByteArray := prog_6_method_8_code
def yX4_mixed : MethodName := ⟨RX4, "mixed", "(II)I"⟩
abbrev cX4_neverZero : ByteArray := prog_6_method_9_code
def yX4_neverZero : MethodName := ⟨RX4, "neverZero", "(I)I"⟩
abbrev cX4_sealOf : ByteArray := prog_6_method_10_code
def yX4_sealOf : MethodName := ⟨RX4, "sealOf", "(II[II)I"⟩
abbrev cX4_added : ByteArray := prog_6_method_11_code
def yX4_added : MethodName := ⟨RX4, "added", "(JI)J"⟩
def RX5 : String := "Burrowline$Packet"
def TX5 : u_T := fun k => match k with
  | 0 => ("Burrowline$Packet", "peer", "I", true)
  | 1 => ("Burrowline$Packet", "source", "I", true)
  | 2 => ("Burrowline$Packet", "dest", "I", true)
  | _ => ("Burrowline$Packet", "load", "I", true)
def tyX5 : Nat → FieldType := fun k => match k with
  | 0 => .int
  | 1 => .int
  | 2 => .int
  | _ => .int
theorem nmX5 : ∀ a, a < 4 → ∀ b, b < 4 → a ≠ b → (TX5 a).2.1 ≠ (TX5 b).2.1 := by decide +kernel
theorem tyX5_ok : ∀ k, k < 4 → parseFieldDescriptor (TX5 k).2.2.1 = some (tyX5 k) := by decide +kernel
abbrev cX5_init : ByteArray := prog_7_method_1_code
def yX5_init : MethodName := ⟨RX5, "<init>", "(IIII)V"⟩
def RX6 : String := "Burrowline$Route"
def TX6 : u_T := fun k => match k with
  | 0 => ("Burrowline$Route", "prefix", "I", true)
  | 1 => ("Burrowline$Route", "bits", "I", true)
  | _ => ("Burrowline$Route", "peer", "I", false)
def tyX6 : Nat → FieldType := fun k => match k with
  | 0 => .int
  | 1 => .int
  | _ => .int
theorem nmX6 : ∀ a, a < 3 → ∀ b, b < 3 → a ≠ b → (TX6 a).2.1 ≠ (TX6 b).2.1 := by decide +kernel
theorem tyX6_ok : ∀ k, k < 3 → parseFieldDescriptor (TX6 k).2.2.1 = some (tyX6 k) := by decide +kernel
abbrev cX6_init : ByteArray := prog_8_method_1_code
def yX6_init : MethodName := ⟨RX6, "<init>", "(III)V"⟩
def RX7 : String := "Burrowline$Session"
def TX7 : u_T := fun k => match k with
  | 0 => ("Burrowline$Session", "index", "I", true)
  | 1 => ("Burrowline$Session", "other", "I", true)
  | 2 => ("Burrowline$Session", "made", "I", true)
  | 3 => ("Burrowline$Session", "began", "Z", true)
  | 4 => ("Burrowline$Session", "sending", "I", true)
  | 5 => ("Burrowline$Session", "receiving", "I", true)
  | 6 => ("Burrowline$Session", "sealed", "I", false)
  | 7 => ("Burrowline$Session", "took", "I", false)
  | 8 => ("Burrowline$Session", "greatest", "I", false)
  | _ => ("Burrowline$Session", "taken", "J", false)
def tyX7 : Nat → FieldType := fun k => match k with
  | 0 => .int
  | 1 => .int
  | 2 => .int
  | 3 => .boolean
  | 4 => .int
  | 5 => .int
  | 6 => .int
  | 7 => .int
  | 8 => .int
  | _ => .long
theorem nmX7 : ∀ a, a < 10 → ∀ b, b < 10 → a ≠ b → (TX7 a).2.1 ≠ (TX7 b).2.1 := by decide +kernel
theorem tyX7_ok : ∀ k, k < 10 → parseFieldDescriptor (TX7 k).2.2.1 = some (tyX7 k) := by decide +kernel
abbrev cX7_init : ByteArray := prog_9_method_1_code
def yX7_init : MethodName := ⟨RX7, "<init>", "(IIIZI)V"⟩
abbrev cX7_canTake : ByteArray := prog_9_method_2_code
def yX7_canTake : MethodName := ⟨RX7, "canTake", "(I)Z"⟩
abbrev cX7_take : ByteArray := prog_9_method_3_code
def yX7_take : MethodName := ⟨RX7, "take", "(I)V"⟩
def RX8 : String := "Burrowline"
def TX8 : u_T := fun k => match k with
  | 0 => ("Burrowline", "ends", "[LBurrowline$End;", true)
  | 1 => ("Burrowline", "net", "Ljava/util/ArrayList;", true)
  | 2 => ("Burrowline", "told", "[I", true)
  | 3 => ("Burrowline", "time", "I", false)
  | 4 => ("Burrowline", "lastNumber", "I", false)
  | _ => ("Burrowline", "delivered", "I", false)
def tyX8 : Nat → FieldType := fun k => match k with
  | 0 => .array (.object "Burrowline$End")
  | 1 => .object "java/util/ArrayList"
  | 2 => .array .int
  | 3 => .int
  | 4 => .int
  | _ => .int
theorem nmX8 : ∀ a, a < 6 → ∀ b, b < 6 → a ≠ b → (TX8 a).2.1 ≠ (TX8 b).2.1 := by decide +kernel
theorem tyX8_ok : ∀ k, k < 6 → parseFieldDescriptor (TX8 k).2.2.1 = some (tyX8 k) := by decide +kernel
abbrev cX8_init : ByteArray := prog_1_method_1_code
def yX8_init : MethodName := ⟨RX8, "<init>", "()V"⟩
abbrev cX8_pass : ByteArray := prog_1_method_2_code
def yX8_pass : MethodName := ⟨RX8, "pass", "(I)I"⟩
abbrev cX8_move : ByteArray := prog_1_method_3_code
def yX8_move : MethodName := ⟨RX8, "move", "(II)I"⟩
abbrev cX8_load : ByteArray := prog_1_method_4_code
def yX8_load : MethodName := ⟨RX8, "load", "(IZ)Z"⟩
abbrev cX8_allow : ByteArray := prog_1_method_5_code
def yX8_allow : MethodName := ⟨RX8, "allow", "(IIII)I"⟩
abbrev cX8_forbid : ByteArray := prog_1_method_6_code
def yX8_forbid : MethodName := ⟨RX8, "forbid", "(III)I"⟩
abbrev cX8_send : ByteArray := prog_1_method_7_code
def yX8_send : MethodName := ⟨RX8, "send", "(IIII)I"⟩
abbrev cX8_keep : ByteArray := prog_1_method_8_code
def yX8_keep : MethodName := ⟨RX8, "keep", "(II)Z"⟩
abbrev cX8_greet : ByteArray := prog_1_method_9_code
def yX8_greet : MethodName := ⟨RX8, "greet", "(II)I"⟩
abbrev cX8_deliver : ByteArray := prog_1_method_10_code
def yX8_deliver : MethodName := ⟨RX8, "deliver", "(I)I"⟩
abbrev cX8_lose : ByteArray := prog_1_method_11_code
def yX8_lose : MethodName := ⟨RX8, "lose", "(I)I"⟩
abbrev cX8_twice : ByteArray := prog_1_method_12_code
def yX8_twice : MethodName := ⟨RX8, "twice", "(I)I"⟩
abbrev cX8_turn : ByteArray := prog_1_method_13_code
def yX8_turn : MethodName := ⟨RX8, "turn", "(III)I"⟩
abbrev cX8_reroute : ByteArray := prog_1_method_14_code
def yX8_reroute : MethodName := ⟨RX8, "reroute", "(II)I"⟩
abbrev cX8_later : ByteArray := prog_1_method_15_code
def yX8_later : MethodName := ⟨RX8, "later", "(I)I"⟩
abbrev cX8_now : ByteArray := prog_1_method_16_code
def yX8_now : MethodName := ⟨RX8, "now", "()I"⟩
abbrev cX8_letters : ByteArray := prog_1_method_17_code
def yX8_letters : MethodName := ⟨RX8, "letters", "()I"⟩
abbrev cX8_letter : ByteArray := prog_1_method_18_code
def yX8_letter : MethodName := ⟨RX8, "letter", "(II)I"⟩
abbrev cX8_isTurned : ByteArray := prog_1_method_19_code
def yX8_isTurned : MethodName := ⟨RX8, "isTurned", "(I)Z"⟩
abbrev cX8_address : ByteArray := prog_1_method_20_code
def yX8_address : MethodName := ⟨RX8, "address", "(I)I"⟩
abbrev cX8_known : ByteArray := prog_1_method_21_code
def yX8_known : MethodName := ⟨RX8, "known", "(II)I"⟩
abbrev cX8_route : ByteArray := prog_1_method_22_code
def yX8_route : MethodName := ⟨RX8, "route", "(II)I"⟩
abbrev cX8_session : ByteArray := prog_1_method_23_code
def yX8_session : MethodName := ⟨RX8, "session", "(IIII)I"⟩
abbrev cX8_isUsable : ByteArray := prog_1_method_24_code
def yX8_isUsable : MethodName := ⟨RX8, "isUsable", "(II)Z"⟩
abbrev cX8_flight : ByteArray := prog_1_method_25_code
def yX8_flight : MethodName := ⟨RX8, "flight", "(II)I"⟩
abbrev cX8_waiting : ByteArray := prog_1_method_26_code
def yX8_waiting : MethodName := ⟨RX8, "waiting", "(II)I"⟩
abbrev cX8_cookie : ByteArray := prog_1_method_27_code
def yX8_cookie : MethodName := ⟨RX8, "cookie", "(II)I"⟩
abbrev cX8_stamp : ByteArray := prog_1_method_28_code
def yX8_stamp : MethodName := ⟨RX8, "stamp", "(IIZ)I"⟩
abbrev cX8_outs : ByteArray := prog_1_method_29_code
def yX8_outs : MethodName := ⟨RX8, "outs", "(I)I"⟩
abbrev cX8_out : ByteArray := prog_1_method_30_code
def yX8_out : MethodName := ⟨RX8, "out", "(III)I"⟩
abbrev cX8_drops : ByteArray := prog_1_method_31_code
def yX8_drops : MethodName := ⟨RX8, "drops", "(I)I"⟩
abbrev cX8_publicOf : ByteArray := prog_1_method_32_code
def yX8_publicOf : MethodName := ⟨RX8, "publicOf", "(I)I"⟩
abbrev cX8_shared : ByteArray := prog_1_method_33_code
def yX8_shared : MethodName := ⟨RX8, "shared", "(II)I"⟩
abbrev cX8_seal : ByteArray := prog_1_method_34_code
def yX8_seal : MethodName := ⟨RX8, "seal", "(IIII)I"⟩
abbrev cX8_share : ByteArray := prog_1_method_35_code
def yX8_share : MethodName := ⟨RX8, "share", "()F"⟩
abbrev cX8_meanAge : ByteArray := prog_1_method_36_code
def yX8_meanAge : MethodName := ⟨RX8, "meanAge", "()D"⟩
abbrev cX8_isSound : ByteArray := prog_1_method_37_code
def yX8_isSound : MethodName := ⟨RX8, "isSound", "()Z"⟩
abbrev cX8_checksum : ByteArray := prog_1_method_38_code
def yX8_checksum : MethodName := ⟨RX8, "checksum", "()J"⟩
abbrev cX8_endAt : ByteArray := prog_1_method_39_code
def yX8_endAt : MethodName := ⟨RX8, "endAt", "(I)LBurrowline$End;"⟩
abbrev cX8_linkAt : ByteArray := prog_1_method_40_code
def yX8_linkAt : MethodName := ⟨RX8, "linkAt", "(II)LBurrowline$Link;"⟩
abbrev cX8_letterAt : ByteArray := prog_1_method_41_code
def yX8_letterAt : MethodName := ⟨RX8, "letterAt", "(I)LBurrowline$Letter;"⟩
abbrev cX8_checkRange : ByteArray := prog_1_method_42_code
def yX8_checkRange : MethodName := ⟨RX8, "checkRange", "(III)V"⟩
abbrev cX8_topBits : ByteArray := prog_1_method_43_code
def yX8_topBits : MethodName := ⟨RX8, "topBits", "(II)I"⟩
abbrev cX8_endWithAddress : ByteArray := prog_1_method_44_code
def yX8_endWithAddress : MethodName := ⟨RX8, "endWithAddress", "(I)LBurrowline$End;"⟩
abbrev cX8_ageOf : ByteArray := prog_1_method_45_code
def yX8_ageOf : MethodName := ⟨RX8, "ageOf", "(LBurrowline$Session;)I"⟩
abbrev cX8_usableOf : ByteArray := prog_1_method_46_code
def yX8_usableOf : MethodName := ⟨RX8, "usableOf", "(LBurrowline$Link;)LBurrowline$Session;"⟩
abbrev cX8_wantsRenewal : ByteArray := prog_1_method_47_code
def yX8_wantsRenewal : MethodName := ⟨RX8, "wantsRenewal", "(LBurrowline$Session;)Z"⟩
abbrev cX8_hasFreshHello : ByteArray := prog_1_method_48_code
def yX8_hasFreshHello : MethodName := ⟨RX8, "hasFreshHello", "(LBurrowline$Link;)Z"⟩
abbrev cX8_youngCookie : ByteArray := prog_1_method_49_code
def yX8_youngCookie : MethodName := ⟨RX8, "youngCookie", "(LBurrowline$Link;)I"⟩
abbrev cX8_post : ByteArray := prog_1_method_50_code
def yX8_post : MethodName := ⟨RX8, "post", "(LBurrowline$Letter;)V"⟩
abbrev cX8_putToWait : ByteArray := prog_1_method_51_code
def yX8_putToWait : MethodName := ⟨RX8, "putToWait", "(LBurrowline$Link;LBurrowline$Packet;)V"⟩
abbrev cX8_greetUnlessFresh : ByteArray := prog_1_method_52_code
def yX8_greetUnlessFresh : MethodName := ⟨RX8, "greetUnlessFresh", "(LBurrowline$End;LBurrowline$Link;)V"⟩
abbrev cX8_sendHello : ByteArray := prog_1_method_53_code
def yX8_sendHello : MethodName := ⟨RX8, "sendHello", "(LBurrowline$End;LBurrowline$Link;)I"⟩
abbrev cX8_sendReply : ByteArray := prog_1_method_54_code
def yX8_sendReply : MethodName := ⟨RX8, "sendReply", "(LBurrowline$End;LBurrowline$Link;LBurrowline$Letter;I)V"⟩
abbrev cX8_sendCookie : ByteArray := prog_1_method_55_code
def yX8_sendCookie : MethodName := ⟨RX8, "sendCookie", "(LBurrowline$End;LBurrowline$Letter;I)V"⟩
abbrev cX8_sendData : ByteArray := prog_1_method_56_code
def yX8_sendData : MethodName := ⟨RX8, "sendData", "(LBurrowline$End;LBurrowline$Link;LBurrowline$Session;III)V"⟩
abbrev cX8_sendWaiting : ByteArray := prog_1_method_57_code
def yX8_sendWaiting : MethodName := ⟨RX8, "sendWaiting", "(LBurrowline$End;LBurrowline$Link;)V"⟩
abbrev cX8_helloKey : ByteArray := prog_1_method_58_code
def yX8_helloKey : MethodName := ⟨RX8, "helloKey", "(LBurrowline$Link;I)I"⟩
abbrev cX8_takeHello : ByteArray := prog_1_method_59_code
def yX8_takeHello : MethodName := ⟨RX8, "takeHello", "(LBurrowline$End;LBurrowline$Letter;)I"⟩
abbrev cX8_takeReply : ByteArray := prog_1_method_60_code
def yX8_takeReply : MethodName := ⟨RX8, "takeReply", "(LBurrowline$End;LBurrowline$Letter;)I"⟩
abbrev cX8_takeCookie : ByteArray := prog_1_method_61_code
def yX8_takeCookie : MethodName := ⟨RX8, "takeCookie", "(LBurrowline$End;LBurrowline$Letter;)I"⟩
abbrev cX8_takeData : ByteArray := prog_1_method_62_code
def yX8_takeData : MethodName := ⟨RX8, "takeData", "(LBurrowline$End;LBurrowline$Letter;)I"⟩
abbrev cX8_bringOut : ByteArray := prog_1_method_63_code
def yX8_bringOut : MethodName := ⟨RX8, "bringOut", "(LBurrowline$End;LBurrowline$Link;LBurrowline$Letter;)I"⟩
abbrev cX8_sessionPart : ByteArray := prog_1_method_64_code
def yX8_sessionPart : MethodName := ⟨RX8, "sessionPart", "(LBurrowline$Session;I)I"⟩
abbrev cX8_sessionInHouse : ByteArray := prog_1_method_65_code
def yX8_sessionInHouse : MethodName := ⟨RX8, "sessionInHouse", "(I)LBurrowline$Session;"⟩
abbrev cX8_isSoundAlone : ByteArray := prog_1_method_66_code
def yX8_isSoundAlone : MethodName := ⟨RX8, "isSoundAlone", "(LBurrowline$Session;)Z"⟩
abbrev cX8_isSoundBeside : ByteArray := prog_1_method_67_code
def yX8_isSoundBeside : MethodName := ⟨RX8, "isSoundBeside", "(LBurrowline$Session;I)Z"⟩
abbrev cX8_isSoundPair : ByteArray := prog_1_method_68_code
def yX8_isSoundPair : MethodName := ⟨RX8, "isSoundPair", "(LBurrowline$Session;LBurrowline$Session;)Z"⟩
abbrev cX8_sumWithLink : ByteArray := prog_1_method_69_code
def yX8_sumWithLink : MethodName := ⟨RX8, "sumWithLink", "(JLBurrowline$Link;)J"⟩
abbrev cX8_sumWithOuts : ByteArray := prog_1_method_70_code
def yX8_sumWithOuts : MethodName := ⟨RX8, "sumWithOuts", "(JLBurrowline$End;)J"⟩
abbrev cX8_sumWithLetter : ByteArray := prog_1_method_71_code
def yX8_sumWithLetter : MethodName := ⟨RX8, "sumWithLetter", "(JLBurrowline$Letter;)J"⟩
def RX9 : String := "BurrowlineModel"
def TX9 : u_T := fun k => match k with
  | 0 => ("BurrowlineModel", "now", "I", false)
  | 1 => ("BurrowlineModel", "count", "I", false)
  | 2 => ("BurrowlineModel", "thrown", "I", false)
  | 3 => ("BurrowlineModel", "delivered", "I", false)
  | 4 => ("BurrowlineModel", "address", "[I", true)
  | 5 => ("BurrowlineModel", "routes", "[I", true)
  | 6 => ("BurrowlineModel", "outs", "[I", true)
  | 7 => ("BurrowlineModel", "codes", "[I", true)
  | 8 => ("BurrowlineModel", "isLoaded", "[Z", true)
  | 9 => ("BurrowlineModel", "route", "[[[I", true)
  | 10 => ("BurrowlineModel", "known", "[[I", true)
  | 11 => ("BurrowlineModel", "taken", "[[I", true)
  | 12 => ("BurrowlineModel", "stamped", "[[I", true)
  | 13 => ("BurrowlineModel", "flight", "[[I", true)
  | 14 => ("BurrowlineModel", "secret", "[[I", true)
  | 15 => ("BurrowlineModel", "tag", "[[I", true)
  | 16 => ("BurrowlineModel", "sentAt", "[[I", true)
  | 17 => ("BurrowlineModel", "cookie", "[[I", true)
  | 18 => ("BurrowlineModel", "cookieAt", "[[I", true)
  | 19 => ("BurrowlineModel", "waits", "[[I", true)
  | 20 => ("BurrowlineModel", "packet", "[[[[I", true)
  | 21 => ("BurrowlineModel", "session", "[[[[I", true)
  | 22 => ("BurrowlineModel", "took", "[[[[Z", true)
  | 23 => ("BurrowlineModel", "letter", "[[I", false)
  | 24 => ("BurrowlineModel", "letters", "I", false)
  | 25 => ("BurrowlineModel", "out", "[[I", false)
  | _ => ("BurrowlineModel", "sum", "J", false)
def tyX9 : Nat → FieldType := fun k => match k with
  | 0 => .int
  | 1 => .int
  | 2 => .int
  | 3 => .int
  | 4 => .array .int
  | 5 => .array .int
  | 6 => .array .int
  | 7 => .array .int
  | 8 => .array .boolean
  | 9 => .array (.array (.array .int))
  | 10 => .array (.array .int)
  | 11 => .array (.array .int)
  | 12 => .array (.array .int)
  | 13 => .array (.array .int)
  | 14 => .array (.array .int)
  | 15 => .array (.array .int)
  | 16 => .array (.array .int)
  | 17 => .array (.array .int)
  | 18 => .array (.array .int)
  | 19 => .array (.array .int)
  | 20 => .array (.array (.array (.array .int)))
  | 21 => .array (.array (.array (.array .int)))
  | 22 => .array (.array (.array (.array .boolean)))
  | 23 => .array (.array .int)
  | 24 => .int
  | 25 => .array (.array .int)
  | _ => .long
theorem nmX9 : ∀ a, a < 27 → ∀ b, b < 27 → a ≠ b → (TX9 a).2.1 ≠ (TX9 b).2.1 := by decide +kernel
theorem tyX9_ok : ∀ k, k < 27 → parseFieldDescriptor (TX9 k).2.2.1 = some (tyX9 k) := by decide +kernel
abbrev cX9_init : ByteArray := prog_11_method_1_code
def yX9_init : MethodName := ⟨RX9, "<init>", "()V"⟩
abbrev cX9_thrown : ByteArray := prog_11_method_2_code
def yX9_thrown : MethodName := ⟨RX9, "thrown", "()I"⟩
abbrev cX9_isWrong : ByteArray := prog_11_method_3_code
def yX9_isWrong : MethodName := ⟨RX9, "isWrong", "(I)Z"⟩
abbrev cX9_isBetween : ByteArray := prog_11_method_4_code
def yX9_isBetween : MethodName := ⟨RX9, "isBetween", "(JJJ)Z"⟩
abbrev cX9_isEnd : ByteArray := prog_11_method_5_code
def yX9_isEnd : MethodName := ⟨RX9, "isEnd", "(I)Z"⟩
abbrev cX9_isLetter : ByteArray := prog_11_method_6_code
def yX9_isLetter : MethodName := ⟨RX9, "isLetter", "(I)Z"⟩
abbrev cX9_pair : ByteArray := prog_11_method_7_code
def yX9_pair : MethodName := ⟨RX9, "pair", "(II)I"⟩
abbrev cX9_power : ByteArray := prog_11_method_8_code
def yX9_power : MethodName := ⟨RX9, "power", "(II)I"⟩
abbrev cX9_open : ByteArray := prog_11_method_9_code
def yX9_open : MethodName := ⟨RX9, "open", "(I)I"⟩
abbrev cX9_both : ByteArray := prog_11_method_10_code
def yX9_both : MethodName := ⟨RX9, "both", "(II)I"⟩
abbrev cX9_mix : ByteArray := prog_11_method_11_code
def yX9_mix : MethodName := ⟨RX9, "mix", "([I)I"⟩
abbrev cX9_rest : ByteArray := prog_11_method_12_code
def yX9_rest : MethodName := ⟨RX9, "rest", "(J)J"⟩
abbrev cX9_sealOf : ByteArray := prog_11_method_13_code
def yX9_sealOf : MethodName := ⟨RX9, "sealOf", "(I[I)I"⟩
abbrev cX9_secretOf : ByteArray := prog_11_method_14_code
def yX9_secretOf : MethodName := ⟨RX9, "secretOf", "(I)I"⟩
abbrev cX9_nameOf : ByteArray := prog_11_method_15_code
def yX9_nameOf : MethodName := ⟨RX9, "nameOf", "(I)I"⟩
abbrev cX9_fresh : ByteArray := prog_11_method_16_code
def yX9_fresh : MethodName := ⟨RX9, "fresh", "(I)I"⟩
abbrev cX9_put : ByteArray := prog_11_method_17_code
def yX9_put : MethodName := ⟨RX9, "put", "(III[I)V"⟩
abbrev cX9_take : ByteArray := prog_11_method_18_code
def yX9_take : MethodName := ⟨RX9, "take", "(I)V"⟩
abbrev cX9_wasTurned : ByteArray := prog_11_method_19_code
def yX9_wasTurned : MethodName := ⟨RX9, "wasTurned", "([I)Z"⟩
abbrev cX9_isFresh : ByteArray := prog_11_method_20_code
def yX9_isFresh : MethodName := ⟨RX9, "isFresh", "(II)Z"⟩
abbrev cX9_keyOf : ByteArray := prog_11_method_21_code
def yX9_keyOf : MethodName := ⟨RX9, "keyOf", "(III)I"⟩
abbrev cX9_hasCookie : ByteArray := prog_11_method_22_code
def yX9_hasCookie : MethodName := ⟨RX9, "hasCookie", "(II)Z"⟩
abbrev cX9_hello : ByteArray := prog_11_method_23_code
def yX9_hello : MethodName := ⟨RX9, "hello", "(II)I"⟩
abbrev cX9_isThere : ByteArray := prog_11_method_24_code
def yX9_isThere : MethodName := ⟨RX9, "isThere", "(III)Z"⟩
abbrev cX9_age : ByteArray := prog_11_method_25_code
def yX9_age : MethodName := ⟨RX9, "age", "(III)I"⟩
abbrev cX9_usable : ByteArray := prog_11_method_26_code
def yX9_usable : MethodName := ⟨RX9, "usable", "(II)Z"⟩
abbrev cX9_make : ByteArray := prog_11_method_27_code
def yX9_make : MethodName := ⟨RX9, "make", "(IIIIIIII)V"⟩
abbrev cX9_turnOver : ByteArray := prog_11_method_28_code
def yX9_turnOver : MethodName := ⟨RX9, "turnOver", "(II)V"⟩
abbrev cX9_data : ByteArray := prog_11_method_29_code
def yX9_data : MethodName := ⟨RX9, "data", "(IIIII)V"⟩
abbrev cX9_sendWaiting : ByteArray := prog_11_method_30_code
def yX9_sendWaiting : MethodName := ⟨RX9, "sendWaiting", "(II)V"⟩
abbrev cX9_given : ByteArray := prog_11_method_31_code
def yX9_given : MethodName := ⟨RX9, "given", "(II)I"⟩
abbrev cX9_gotHello : ByteArray := prog_11_method_32_code
def yX9_gotHello : MethodName := ⟨RX9, "gotHello", "(I[I)I"⟩
abbrev cX9_inFlight : ByteArray := prog_11_method_33_code
def yX9_inFlight : MethodName := ⟨RX9, "inFlight", "(II)I"⟩
abbrev cX9_gotReply : ByteArray := prog_11_method_34_code
def yX9_gotReply : MethodName := ⟨RX9, "gotReply", "(I[I)I"⟩
abbrev cX9_gotCookie : ByteArray := prog_11_method_35_code
def yX9_gotCookie : MethodName := ⟨RX9, "gotCookie", "(I[I)I"⟩
abbrev cX9_gotData : ByteArray := prog_11_method_36_code
def yX9_gotData : MethodName := ⟨RX9, "gotData", "(I[I)I"⟩
abbrev cX9_got : ByteArray := prog_11_method_37_code
def yX9_got : MethodName := ⟨RX9, "got", "([I)I"⟩
abbrev cX9_pass : ByteArray := prog_11_method_38_code
def yX9_pass : MethodName := ⟨RX9, "pass", "(I)I"⟩
abbrev cX9_move : ByteArray := prog_11_method_39_code
def yX9_move : MethodName := ⟨RX9, "move", "(II)I"⟩
abbrev cX9_load : ByteArray := prog_11_method_40_code
def yX9_load : MethodName := ⟨RX9, "load", "(IZ)Z"⟩
abbrev cX9_place : ByteArray := prog_11_method_41_code
def yX9_place : MethodName := ⟨RX9, "place", "(III)I"⟩
abbrev cX9_counting : ByteArray := prog_11_method_42_code
def yX9_counting : MethodName := ⟨RX9, "counting", "(II)I"⟩
abbrev cX9_allow : ByteArray := prog_11_method_43_code
def yX9_allow : MethodName := ⟨RX9, "allow", "(IIII)I"⟩
abbrev cX9_forbid : ByteArray := prog_11_method_44_code
def yX9_forbid : MethodName := ⟨RX9, "forbid", "(III)I"⟩
abbrev cX9_send : ByteArray := prog_11_method_45_code
def yX9_send : MethodName := ⟨RX9, "send", "(IIII)I"⟩
abbrev cX9_keep : ByteArray := prog_11_method_46_code
def yX9_keep : MethodName := ⟨RX9, "keep", "(II)Z"⟩
abbrev cX9_greet : ByteArray := prog_11_method_47_code
def yX9_greet : MethodName := ⟨RX9, "greet", "(II)I"⟩
abbrev cX9_deliver : ByteArray := prog_11_method_48_code
def yX9_deliver : MethodName := ⟨RX9, "deliver", "(I)I"⟩
abbrev cX9_lose : ByteArray := prog_11_method_49_code
def yX9_lose : MethodName := ⟨RX9, "lose", "(I)I"⟩
abbrev cX9_twice : ByteArray := prog_11_method_50_code
def yX9_twice : MethodName := ⟨RX9, "twice", "(I)I"⟩
abbrev cX9_canTurn : ByteArray := prog_11_method_51_code
def yX9_canTurn : MethodName := ⟨RX9, "canTurn", "(II)Z"⟩
abbrev cX9_turn : ByteArray := prog_11_method_52_code
def yX9_turn : MethodName := ⟨RX9, "turn", "(III)I"⟩
abbrev cX9_reroute : ByteArray := prog_11_method_53_code
def yX9_reroute : MethodName := ⟨RX9, "reroute", "(II)I"⟩
abbrev cX9_later : ByteArray := prog_11_method_54_code
def yX9_later : MethodName := ⟨RX9, "later", "(I)I"⟩
abbrev cX9_now : ByteArray := prog_11_method_55_code
def yX9_now : MethodName := ⟨RX9, "now", "()I"⟩
abbrev cX9_letters : ByteArray := prog_11_method_56_code
def yX9_letters : MethodName := ⟨RX9, "letters", "()I"⟩
abbrev cX9_letter : ByteArray := prog_11_method_57_code
def yX9_letter : MethodName := ⟨RX9, "letter", "(II)I"⟩
abbrev cX9_isTurned : ByteArray := prog_11_method_58_code
def yX9_isTurned : MethodName := ⟨RX9, "isTurned", "(I)Z"⟩
abbrev cX9_address : ByteArray := prog_11_method_59_code
def yX9_address : MethodName := ⟨RX9, "address", "(I)I"⟩
abbrev cX9_known : ByteArray := prog_11_method_60_code
def yX9_known : MethodName := ⟨RX9, "known", "(II)I"⟩
abbrev cX9_route : ByteArray := prog_11_method_61_code
def yX9_route : MethodName := ⟨RX9, "route", "(II)I"⟩
abbrev cX9_session : ByteArray := prog_11_method_62_code
def yX9_session : MethodName := ⟨RX9, "session", "(IIII)I"⟩
abbrev cX9_isUsable : ByteArray := prog_11_method_63_code
def yX9_isUsable : MethodName := ⟨RX9, "isUsable", "(II)Z"⟩
abbrev cX9_flight : ByteArray := prog_11_method_64_code
def yX9_flight : MethodName := ⟨RX9, "flight", "(II)I"⟩
abbrev cX9_waiting : ByteArray := prog_11_method_65_code
def yX9_waiting : MethodName := ⟨RX9, "waiting", "(II)I"⟩
abbrev cX9_cookie : ByteArray := prog_11_method_66_code
def yX9_cookie : MethodName := ⟨RX9, "cookie", "(II)I"⟩
abbrev cX9_stamp : ByteArray := prog_11_method_67_code
def yX9_stamp : MethodName := ⟨RX9, "stamp", "(IIZ)I"⟩
abbrev cX9_outs : ByteArray := prog_11_method_68_code
def yX9_outs : MethodName := ⟨RX9, "outs", "(I)I"⟩
abbrev cX9_out : ByteArray := prog_11_method_69_code
def yX9_out : MethodName := ⟨RX9, "out", "(III)I"⟩
abbrev cX9_drops : ByteArray := prog_11_method_70_code
def yX9_drops : MethodName := ⟨RX9, "drops", "(I)I"⟩
abbrev cX9_publicOf : ByteArray := prog_11_method_71_code
def yX9_publicOf : MethodName := ⟨RX9, "publicOf", "(I)I"⟩
abbrev cX9_shared : ByteArray := prog_11_method_72_code
def yX9_shared : MethodName := ⟨RX9, "shared", "(II)I"⟩
abbrev cX9_seal : ByteArray := prog_11_method_73_code
def yX9_seal : MethodName := ⟨RX9, "seal", "(IIII)I"⟩
abbrev cX9_share : ByteArray := prog_11_method_74_code
def yX9_share : MethodName := ⟨RX9, "share", "()F"⟩
abbrev cX9_meanAge : ByteArray := prog_11_method_75_code
def yX9_meanAge : MethodName := ⟨RX9, "meanAge", "()D"⟩
abbrev cX9_isSound : ByteArray := prog_11_method_76_code
def yX9_isSound : MethodName := ⟨RX9, "isSound", "()Z"⟩
abbrev cX9_add : ByteArray := prog_11_method_77_code
def yX9_add : MethodName := ⟨RX9, "add", "(J)V"⟩
abbrev cX9_checksum : ByteArray := prog_11_method_78_code
def yX9_checksum : MethodName := ⟨RX9, "checksum", "()J"⟩
def RJx145de : String := "java/io/Serializable"
def TJx145de : u_T := fun k => match k with
  | _ => ("", "", "", false)
def tyJx145de : Nat → FieldType := fun k => match k with
  | _ => .int
theorem nmJx145de : ∀ a, a < 0 → ∀ b, b < 0 → a ≠ b → (TJx145de a).2.1 ≠ (TJx145de b).2.1 := by decide +kernel
theorem tyJx145de_ok : ∀ k, k < 0 → parseFieldDescriptor (TJx145de k).2.2.1 = some (tyJx145de k) := by decide +kernel
def RJx8e188 : String := "java/lang/Cloneable"
def TJx8e188 : u_T := fun k => match k with
  | _ => ("", "", "", false)
def tyJx8e188 : Nat → FieldType := fun k => match k with
  | _ => .int
theorem nmJx8e188 : ∀ a, a < 0 → ∀ b, b < 0 → a ≠ b → (TJx8e188 a).2.1 ≠ (TJx8e188 b).2.1 := by decide +kernel
theorem tyJx8e188_ok : ∀ k, k < 0 → parseFieldDescriptor (TJx8e188 k).2.2.1 = some (tyJx8e188 k) := by decide +kernel
def RJxab1ab : String := "java/lang/Iterable"
def TJxab1ab : u_T := fun k => match k with
  | _ => ("", "", "", false)
def tyJxab1ab : Nat → FieldType := fun k => match k with
  | _ => .int
theorem nmJxab1ab : ∀ a, a < 0 → ∀ b, b < 0 → a ≠ b → (TJxab1ab a).2.1 ≠ (TJxab1ab b).2.1 := by decide +kernel
theorem tyJxab1ab_ok : ∀ k, k < 0 → parseFieldDescriptor (TJxab1ab k).2.2.1 = some (tyJxab1ab k) := by decide +kernel
def RJ13 : String := "java/lang/Long"
def TJ13 : u_T := fun k => match k with
  | _ => ("", "", "", false)
def tyJ13 : Nat → FieldType := fun k => match k with
  | _ => .int
theorem nmJ13 : ∀ a, a < 0 → ∀ b, b < 0 → a ≠ b → (TJ13 a).2.1 ≠ (TJ13 b).2.1 := by decide +kernel
theorem tyJ13_ok : ∀ k, k < 0 → parseFieldDescriptor (TJ13 k).2.2.1 = some (tyJ13 k) := by decide +kernel
abbrev cJ13_bitCount_95d88 : ByteArray := prog_19_method_50_code
def yJ13_bitCount_95d88 : MethodName := ⟨RJ13, "bitCount", "(J)I"⟩
def RJ9 : String := "java/lang/Math"
def TJ9 : u_T := fun k => match k with
  | _ => ("", "", "", false)
def tyJ9 : Nat → FieldType := fun k => match k with
  | _ => .int
theorem nmJ9 : ∀ a, a < 0 → ∀ b, b < 0 → a ≠ b → (TJ9 a).2.1 ≠ (TJ9 b).2.1 := by decide +kernel
theorem tyJ9_ok : ∀ k, k < 0 → parseFieldDescriptor (TJ9 k).2.2.1 = some (tyJ9 k) := by decide +kernel
abbrev cJ9_floorMod_f86c9 : ByteArray := prog_20_method_52_code
def yJ9_floorMod_f86c9 : MethodName := ⟨RJ9, "floorMod", "(JJ)J"⟩
abbrev cJ9_max_7cf53 : ByteArray := prog_20_method_65_code
def yJ9_max_7cf53 : MethodName := ⟨RJ9, "max", "(II)I"⟩
abbrev cJ9_min_7cf53 : ByteArray := prog_20_method_69_code
def yJ9_min_7cf53 : MethodName := ⟨RJ9, "min", "(II)I"⟩
def RJ0 : String := "java/lang/String"
def TJ0 : u_T := fun k => match k with
  | _ => ("", "", "", false)
def tyJ0 : Nat → FieldType := fun k => match k with
  | _ => .int
theorem nmJ0 : ∀ a, a < 0 → ∀ b, b < 0 → a ≠ b → (TJ0 a).2.1 ≠ (TJ0 b).2.1 := by decide +kernel
theorem tyJ0_ok : ∀ k, k < 0 → parseFieldDescriptor (TJ0 k).2.2.1 = some (tyJ0 k) := by decide +kernel
def RJ10 : String := "java/lang/System"
def TJ10 : u_T := fun k => match k with
  | _ => ("", "", "", false)
def tyJ10 : Nat → FieldType := fun k => match k with
  | _ => .int
theorem nmJ10 : ∀ a, a < 0 → ∀ b, b < 0 → a ≠ b → (TJ10 a).2.1 ≠ (TJ10 b).2.1 := by decide +kernel
theorem tyJ10_ok : ∀ k, k < 0 → parseFieldDescriptor (TJ10 k).2.2.1 = some (tyJ10 k) := by decide +kernel
def RJxa1e45 : String := "java/util/AbstractCollection"
def TJxa1e45 : u_T := fun k => match k with
  | _ => ("", "", "", false)
def tyJxa1e45 : Nat → FieldType := fun k => match k with
  | _ => .int
theorem nmJxa1e45 : ∀ a, a < 0 → ∀ b, b < 0 → a ≠ b → (TJxa1e45 a).2.1 ≠ (TJxa1e45 b).2.1 := by decide +kernel
theorem tyJxa1e45_ok : ∀ k, k < 0 → parseFieldDescriptor (TJxa1e45 k).2.2.1 = some (tyJxa1e45 k) := by decide +kernel
abbrev cJxa1e45_init_da8c8 : ByteArray := prog_25_method_1_code
def yJxa1e45_init_da8c8 : MethodName := ⟨RJxa1e45, "<init>", "()V"⟩
def RJxc12de : String := "java/util/AbstractList"
def TJxc12de : u_T := fun k => match k with
  | _ => ("", "", "", false)
def tyJxc12de : Nat → FieldType := fun k => match k with
  | _ => .int
theorem nmJxc12de : ∀ a, a < 0 → ∀ b, b < 0 → a ≠ b → (TJxc12de a).2.1 ≠ (TJxc12de b).2.1 := by decide +kernel
theorem tyJxc12de_ok : ∀ k, k < 0 → parseFieldDescriptor (TJxc12de k).2.2.1 = some (tyJxc12de k) := by decide +kernel
abbrev cJxc12de_init_da8c8 : ByteArray := prog_26_method_1_code
def yJxc12de_init_da8c8 : MethodName := ⟨RJxc12de, "<init>", "()V"⟩
def RJx4a65c : String := "java/util/ArrayList"
def TJx4a65c : u_T := fun k => match k with
  | 0 => ("java/util/AbstractList", "modCount", "I", false)
  | 1 => ("java/util/ArrayList", "elementData", "[Ljava/lang/Object;", false)
  | _ => ("java/util/ArrayList", "size", "I", false)
def tyJx4a65c : Nat → FieldType := fun k => match k with
  | 0 => .int
  | 1 => .array (.object "java/lang/Object")
  | _ => .int
theorem nmJx4a65c : ∀ a, a < 3 → ∀ b, b < 3 → a ≠ b → (TJx4a65c a).2.1 ≠ (TJx4a65c b).2.1 := by decide +kernel
theorem tyJx4a65c_ok : ∀ k, k < 3 → parseFieldDescriptor (TJx4a65c k).2.2.1 = some (tyJx4a65c k) := by decide +kernel
abbrev cJx4a65c_init_da8c8 : ByteArray := prog_27_method_2_code
def yJx4a65c_init_da8c8 : MethodName := ⟨RJx4a65c, "<init>", "()V"⟩
abbrev cJx4a65c_grow_92f84 : ByteArray := prog_27_method_6_code
def yJx4a65c_grow_92f84 : MethodName := ⟨RJx4a65c, "grow", "(I)[Ljava/lang/Object;"⟩
abbrev cJx4a65c_grow_d5877 : ByteArray := prog_27_method_7_code
def yJx4a65c_grow_d5877 : MethodName := ⟨RJx4a65c, "grow", "()[Ljava/lang/Object;"⟩
abbrev cJx4a65c_size_8abf5 : ByteArray := prog_27_method_8_code
def yJx4a65c_size_8abf5 : MethodName := ⟨RJx4a65c, "size", "()I"⟩
abbrev cJx4a65c_isEmpty_aae02 : ByteArray := prog_27_method_9_code
def yJx4a65c_isEmpty_aae02 : MethodName := ⟨RJx4a65c, "isEmpty", "()Z"⟩
abbrev cJx4a65c_elementData_915e3 : ByteArray := prog_27_method_18_code
def yJx4a65c_elementData_915e3 : MethodName := ⟨RJx4a65c, "elementData", "(I)Ljava/lang/Object;"⟩
abbrev cJx4a65c_get_915e3 : ByteArray := prog_27_method_20_code
def yJx4a65c_get_915e3 : MethodName := ⟨RJx4a65c, "get", "(I)Ljava/lang/Object;"⟩
abbrev cJx4a65c_add_72be8 : ByteArray := prog_27_method_24_code
def yJx4a65c_add_72be8 : MethodName := ⟨RJx4a65c, "add", "(Ljava/lang/Object;[Ljava/lang/Object;I)V"⟩
abbrev cJx4a65c_add_9ea2d : ByteArray := prog_27_method_25_code
def yJx4a65c_add_9ea2d : MethodName := ⟨RJx4a65c, "add", "(Ljava/lang/Object;)Z"⟩
abbrev cJx4a65c_remove_915e3 : ByteArray := prog_27_method_29_code
def yJx4a65c_remove_915e3 : MethodName := ⟨RJx4a65c, "remove", "(I)Ljava/lang/Object;"⟩
abbrev cJx4a65c_fastRemove_b59b0 : ByteArray := prog_27_method_39_code
def yJx4a65c_fastRemove_b59b0 : MethodName := ⟨RJx4a65c, "fastRemove", "([Ljava/lang/Object;I)V"⟩
def RJ7 : String := "java/util/Arrays"
def TJ7 : u_T := fun k => match k with
  | _ => ("", "", "", false)
def tyJ7 : Nat → FieldType := fun k => match k with
  | _ => .int
theorem nmJ7 : ∀ a, a < 0 → ∀ b, b < 0 → a ≠ b → (TJ7 a).2.1 ≠ (TJ7 b).2.1 := by decide +kernel
theorem tyJ7_ok : ∀ k, k < 0 → parseFieldDescriptor (TJ7 k).2.2.1 = some (tyJ7 k) := by decide +kernel
abbrev cJ7_copyOf_1904c : ByteArray := prog_28_method_119_code
def yJ7_copyOf_1904c : MethodName := ⟨RJ7, "copyOf", "([Ljava/lang/Object;I)[Ljava/lang/Object;"⟩
abbrev cJ7_copyOf_6403c : ByteArray := prog_28_method_120_code
def yJ7_copyOf_6403c : MethodName := ⟨RJ7, "copyOf", "([Ljava/lang/Object;ILjava/lang/Class;)[Ljava/lang/Object;"⟩
def RJx5ef63 : String := "java/util/Collection"
def TJx5ef63 : u_T := fun k => match k with
  | _ => ("", "", "", false)
def tyJx5ef63 : Nat → FieldType := fun k => match k with
  | _ => .int
theorem nmJx5ef63 : ∀ a, a < 0 → ∀ b, b < 0 → a ≠ b → (TJx5ef63 a).2.1 ≠ (TJx5ef63 b).2.1 := by decide +kernel
theorem tyJx5ef63_ok : ∀ k, k < 0 → parseFieldDescriptor (TJx5ef63 k).2.2.1 = some (tyJx5ef63 k) := by decide +kernel
def RJxbd725 : String := "java/util/List"
def TJxbd725 : u_T := fun k => match k with
  | _ => ("", "", "", false)
def tyJxbd725 : Nat → FieldType := fun k => match k with
  | _ => .int
theorem nmJxbd725 : ∀ a, a < 0 → ∀ b, b < 0 → a ≠ b → (TJxbd725 a).2.1 ≠ (TJxbd725 b).2.1 := by decide +kernel
theorem tyJxbd725_ok : ∀ k, k < 0 → parseFieldDescriptor (TJxbd725 k).2.2.1 = some (tyJxbd725 k) := by decide +kernel
def RJ15 : String := "java/util/Objects"
def TJ15 : u_T := fun k => match k with
  | _ => ("", "", "", false)
def tyJ15 : Nat → FieldType := fun k => match k with
  | _ => .int
theorem nmJ15 : ∀ a, a < 0 → ∀ b, b < 0 → a ≠ b → (TJ15 a).2.1 ≠ (TJ15 b).2.1 := by decide +kernel
theorem tyJ15_ok : ∀ k, k < 0 → parseFieldDescriptor (TJ15 k).2.2.1 = some (tyJ15 k) := by decide +kernel
abbrev cJ15_checkIndex_7cf53 : ByteArray := prog_32_method_17_code
def yJ15_checkIndex_7cf53 : MethodName := ⟨RJ15, "checkIndex", "(II)I"⟩
def RJxf0a74 : String := "java/util/RandomAccess"
def TJxf0a74 : u_T := fun k => match k with
  | _ => ("", "", "", false)
def tyJxf0a74 : Nat → FieldType := fun k => match k with
  | _ => .int
theorem nmJxf0a74 : ∀ a, a < 0 → ∀ b, b < 0 → a ≠ b → (TJxf0a74 a).2.1 ≠ (TJxf0a74 b).2.1 := by decide +kernel
theorem tyJxf0a74_ok : ∀ k, k < 0 → parseFieldDescriptor (TJxf0a74 k).2.2.1 = some (tyJxf0a74 k) := by decide +kernel
def RJxa66e6 : String := "java/util/SequencedCollection"
def TJxa66e6 : u_T := fun k => match k with
  | _ => ("", "", "", false)
def tyJxa66e6 : Nat → FieldType := fun k => match k with
  | _ => .int
theorem nmJxa66e6 : ∀ a, a < 0 → ∀ b, b < 0 → a ≠ b → (TJxa66e6 a).2.1 ≠ (TJxa66e6 b).2.1 := by decide +kernel
theorem tyJxa66e6_ok : ∀ k, k < 0 → parseFieldDescriptor (TJxa66e6 k).2.2.1 = some (tyJxa66e6 k) := by decide +kernel
def RJ8 : String := "jdk/internal/util/ArraysSupport"
def TJ8 : u_T := fun k => match k with
  | _ => ("", "", "", false)
def tyJ8 : Nat → FieldType := fun k => match k with
  | _ => .int
theorem nmJ8 : ∀ a, a < 0 → ∀ b, b < 0 → a ≠ b → (TJ8 a).2.1 ≠ (TJ8 b).2.1 := by decide +kernel
theorem tyJ8_ok : ∀ k, k < 0 → parseFieldDescriptor (TJ8 k).2.2.1 = some (tyJ8 k) := by decide +kernel
abbrev cJ8_newLength_cabcc : ByteArray := prog_35_method_27_code
def yJ8_newLength_cabcc : MethodName := ⟨RJ8, "newLength", "(III)I"⟩
abbrev cJ8_hugeLength_7cf53 : ByteArray := prog_35_method_28_code
def yJ8_hugeLength_7cf53 : MethodName := ⟨RJ8, "hugeLength", "(II)I"⟩
def RJ3 : String := "jdk/internal/util/Preconditions"
def TJ3 : u_T := fun k => match k with
  | _ => ("", "", "", false)
def tyJ3 : Nat → FieldType := fun k => match k with
  | _ => .int
theorem nmJ3 : ∀ a, a < 0 → ∀ b, b < 0 → a ≠ b → (TJ3 a).2.1 ≠ (TJ3 b).2.1 := by decide +kernel
theorem tyJ3_ok : ∀ k, k < 0 → parseFieldDescriptor (TJ3 k).2.2.1 = some (tyJ3 k) := by decide +kernel
abbrev cJ3_checkIndex_8e157 : ByteArray := prog_36_method_11_code
def yJ3_checkIndex_8e157 : MethodName := ⟨RJ3, "checkIndex", "(IILjava/util/function/BiFunction;)I"⟩
def RL : String := "BurrowlineLaw"
abbrev cL_pass : ByteArray := method_3_code
def yL_pass : MethodName := ⟨RL, "pass", "(LBurrowline;I[J)I"⟩
abbrev cL_move : ByteArray := method_4_code
def yL_move : MethodName := ⟨RL, "move", "(LBurrowline;II[J)I"⟩
abbrev cL_load : ByteArray := method_5_code
def yL_load : MethodName := ⟨RL, "load", "(LBurrowline;IZ[J)I"⟩
abbrev cL_allow : ByteArray := method_6_code
def yL_allow : MethodName := ⟨RL, "allow", "(LBurrowline;IIII[J)I"⟩
abbrev cL_forbid : ByteArray := method_7_code
def yL_forbid : MethodName := ⟨RL, "forbid", "(LBurrowline;III[J)I"⟩
abbrev cL_send : ByteArray := method_8_code
def yL_send : MethodName := ⟨RL, "send", "(LBurrowline;IIII[J)I"⟩
abbrev cL_keep : ByteArray := method_9_code
def yL_keep : MethodName := ⟨RL, "keep", "(LBurrowline;II[J)I"⟩
abbrev cL_greet : ByteArray := method_10_code
def yL_greet : MethodName := ⟨RL, "greet", "(LBurrowline;II[J)I"⟩
abbrev cL_deliver : ByteArray := method_11_code
def yL_deliver : MethodName := ⟨RL, "deliver", "(LBurrowline;I[J)I"⟩
abbrev cL_lose : ByteArray := method_12_code
def yL_lose : MethodName := ⟨RL, "lose", "(LBurrowline;I[J)I"⟩
abbrev cL_twice : ByteArray := method_13_code
def yL_twice : MethodName := ⟨RL, "twice", "(LBurrowline;I[J)I"⟩
abbrev cL_turn : ByteArray := method_14_code
def yL_turn : MethodName := ⟨RL, "turn", "(LBurrowline;III[J)I"⟩
abbrev cL_reroute : ByteArray := method_15_code
def yL_reroute : MethodName := ⟨RL, "reroute", "(LBurrowline;II[J)I"⟩
abbrev cL_later : ByteArray := method_16_code
def yL_later : MethodName := ⟨RL, "later", "(LBurrowline;I[J)I"⟩
abbrev cL_letter : ByteArray := method_17_code
def yL_letter : MethodName := ⟨RL, "letter", "(LBurrowline;II[J)I"⟩
abbrev cL_isTurned : ByteArray := method_18_code
def yL_isTurned : MethodName := ⟨RL, "isTurned", "(LBurrowline;I[J)I"⟩
abbrev cL_address : ByteArray := method_19_code
def yL_address : MethodName := ⟨RL, "address", "(LBurrowline;I[J)I"⟩
abbrev cL_known : ByteArray := method_20_code
def yL_known : MethodName := ⟨RL, "known", "(LBurrowline;II[J)I"⟩
abbrev cL_route : ByteArray := method_21_code
def yL_route : MethodName := ⟨RL, "route", "(LBurrowline;II[J)I"⟩
abbrev cL_session : ByteArray := method_22_code
def yL_session : MethodName := ⟨RL, "session", "(LBurrowline;IIII[J)I"⟩
abbrev cL_isUsable : ByteArray := method_23_code
def yL_isUsable : MethodName := ⟨RL, "isUsable", "(LBurrowline;II[J)I"⟩
abbrev cL_flight : ByteArray := method_24_code
def yL_flight : MethodName := ⟨RL, "flight", "(LBurrowline;II[J)I"⟩
abbrev cL_waiting : ByteArray := method_25_code
def yL_waiting : MethodName := ⟨RL, "waiting", "(LBurrowline;II[J)I"⟩
abbrev cL_cookie : ByteArray := method_26_code
def yL_cookie : MethodName := ⟨RL, "cookie", "(LBurrowline;II[J)I"⟩
abbrev cL_stamp : ByteArray := method_27_code
def yL_stamp : MethodName := ⟨RL, "stamp", "(LBurrowline;IIZ[J)I"⟩
abbrev cL_outs : ByteArray := method_28_code
def yL_outs : MethodName := ⟨RL, "outs", "(LBurrowline;I[J)I"⟩
abbrev cL_out : ByteArray := method_29_code
def yL_out : MethodName := ⟨RL, "out", "(LBurrowline;III[J)I"⟩
abbrev cL_drops : ByteArray := method_30_code
def yL_drops : MethodName := ⟨RL, "drops", "(LBurrowline;I[J)I"⟩
abbrev cL_publicOf : ByteArray := method_31_code
def yL_publicOf : MethodName := ⟨RL, "publicOf", "(LBurrowline;I[J)I"⟩
abbrev cL_shared : ByteArray := method_32_code
def yL_shared : MethodName := ⟨RL, "shared", "(LBurrowline;II[J)I"⟩
abbrev cL_seal : ByteArray := method_33_code
def yL_seal : MethodName := ⟨RL, "seal", "(LBurrowline;IIII[J)I"⟩
abbrev cL_law : ByteArray := code
def yL_law : MethodName := ⟨RL, "law", "([I)Z"⟩
abbrev vwCl : List vw_C := [(RJx4a65c, TJx4a65c, 3), (RX0, TX0, 7), (RX1, TX1, 4), (RX2, TX2, 8), (RX3, TX3, 13), (RX5, TX5, 4), (RX6, TX6, 3), (RX7, TX7, 10), (RX8, TX8, 6), (RX9, TX9, 27)]
theorem lin_X0 : ∀ w ∈ u_ws RX0 TX0 7, w ∈ lw_good := by decide +kernel
theorem lin_X1 : ∀ w ∈ u_ws RX1 TX1 4, w ∈ lw_good := by decide +kernel
theorem lin_X2 : ∀ w ∈ u_ws RX2 TX2 8, w ∈ lw_good := by decide +kernel
theorem lin_X3 : ∀ w ∈ u_ws RX3 TX3 13, w ∈ lw_good := by decide +kernel
theorem lin_X5 : ∀ w ∈ u_ws RX5 TX5 4, w ∈ lw_good := by decide +kernel
theorem lin_X6 : ∀ w ∈ u_ws RX6 TX6 3, w ∈ lw_good := by decide +kernel
theorem lin_X7 : ∀ w ∈ u_ws RX7 TX7 10, w ∈ lw_good := by decide +kernel
theorem lin_X8 : ∀ w ∈ u_ws RX8 TX8 6, w ∈ lw_good := by decide +kernel
theorem lin_X9 : ∀ w ∈ u_ws RX9 TX9 27, w ∈ lw_good := by decide +kernel
theorem lin_Jx4a65c : ∀ w ∈ u_ws RJx4a65c TJx4a65c 3, w ∈ lw_good := by decide +kernel
