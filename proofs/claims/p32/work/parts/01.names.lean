-- ===== PART A: goes FIRST, ahead of the names: the tables' words, and 'selects' of the private methods out of them =====
/-- a private method of a class that the tables say can be made, by its rows of tables_1 -/
def lw_okq (q : MethodName × Nat) : Prop := (q.1.cls ≠ "java/lang/invoke/MethodHandle" ∧ q.1.cls ≠ "java/lang/invoke/VarHandle") ∧ Cond.instantiable q.1.cls q.2 ∈ tables_1 ∧ Cond.privateMethod q.1 ∈ tables_1 ∧ Cond.instanceMethod q.1 ∈ tables_1
theorem lw_p0 : lw_okq (⟨"LanternBoats$Coast", "reset", "()V"⟩, 11) := ⟨⟨by decide +kernel, by decide +kernel⟩, List.mem_of_getElem? (i := 44) (by decide +kernel), List.mem_of_getElem? (i := 142) (by decide +kernel), List.mem_of_getElem? (i := 143) (by decide +kernel)⟩
theorem lw_p1 : lw_okq (⟨"java/lang/Throwable", "fillInStackTrace", "(I)Ljava/lang/Throwable;"⟩, 6) := ⟨⟨by decide +kernel, by decide +kernel⟩, List.mem_of_getElem? (i := 264) (by decide +kernel), List.mem_of_getElem? (i := 262) (by decide +kernel), List.mem_of_getElem? (i := 263) (by decide +kernel)⟩
theorem lw_p2 : lw_okq (⟨"LanternBoats$Coast", "servedBoats", "()I"⟩, 11) := ⟨⟨by decide +kernel, by decide +kernel⟩, List.mem_of_getElem? (i := 44) (by decide +kernel), List.mem_of_getElem? (i := 298) (by decide +kernel), List.mem_of_getElem? (i := 299) (by decide +kernel)⟩
theorem lw_p3 : lw_okq (⟨"LanternBoats$Coast", "talkingBoats", "()I"⟩, 11) := ⟨⟨by decide +kernel, by decide +kernel⟩, List.mem_of_getElem? (i := 44) (by decide +kernel), List.mem_of_getElem? (i := 306) (by decide +kernel), List.mem_of_getElem? (i := 307) (by decide +kernel)⟩
theorem lw_p4 : lw_okq (⟨"LanternBoats$Memory", "stateAt", "(I)LLanternBoats$Coast;"⟩, 5) := ⟨⟨by decide +kernel, by decide +kernel⟩, List.mem_of_getElem? (i := 184) (by decide +kernel), List.mem_of_getElem? (i := 380) (by decide +kernel), List.mem_of_getElem? (i := 381) (by decide +kernel)⟩
theorem lw_p5 : lw_okq (⟨"LanternBoats", "takeTurn", "(I)V"⟩, 4) := ⟨⟨by decide +kernel, by decide +kernel⟩, List.mem_of_getElem? (i := 15) (by decide +kernel), List.mem_of_getElem? (i := 422) (by decide +kernel), List.mem_of_getElem? (i := 423) (by decide +kernel)⟩
theorem lw_p6 : lw_okq (⟨"LanternBoats$Coast", "sail", "(LLanternBoats$Boat;)V"⟩, 11) := ⟨⟨by decide +kernel, by decide +kernel⟩, List.mem_of_getElem? (i := 44) (by decide +kernel), List.mem_of_getElem? (i := 517) (by decide +kernel), List.mem_of_getElem? (i := 518) (by decide +kernel)⟩
theorem lw_p7 : lw_okq (⟨"LanternBoats$Coast", "lose", "(LLanternBoats$Boat;)V"⟩, 11) := ⟨⟨by decide +kernel, by decide +kernel⟩, List.mem_of_getElem? (i := 44) (by decide +kernel), List.mem_of_getElem? (i := 526) (by decide +kernel), List.mem_of_getElem? (i := 527) (by decide +kernel)⟩
theorem lw_p8 : lw_okq (⟨"LanternBoats$Coast", "serve", "(LLanternBoats$Boat;I)V"⟩, 11) := ⟨⟨by decide +kernel, by decide +kernel⟩, List.mem_of_getElem? (i := 44) (by decide +kernel), List.mem_of_getElem? (i := 530) (by decide +kernel), List.mem_of_getElem? (i := 531) (by decide +kernel)⟩
theorem lw_p9 : lw_okq (⟨"LanternBoats$Coast", "seekKeeper", "(LLanternBoats$Boat;)V"⟩, 11) := ⟨⟨by decide +kernel, by decide +kernel⟩, List.mem_of_getElem? (i := 44) (by decide +kernel), List.mem_of_getElem? (i := 538) (by decide +kernel), List.mem_of_getElem? (i := 539) (by decide +kernel)⟩
theorem lw_p10 : lw_okq (⟨"LanternBoats$Coast", "bestWish", "(LLanternBoats$Boat;LLanternBoats$Light;)I"⟩, 11) := ⟨⟨by decide +kernel, by decide +kernel⟩, List.mem_of_getElem? (i := 44) (by decide +kernel), List.mem_of_getElem? (i := 556) (by decide +kernel), List.mem_of_getElem? (i := 557) (by decide +kernel)⟩
theorem lw_p11 : lw_okq (⟨"LanternBoats$Coast", "ask", "(LLanternBoats$Boat;)V"⟩, 11) := ⟨⟨by decide +kernel, by decide +kernel⟩, List.mem_of_getElem? (i := 44) (by decide +kernel), List.mem_of_getElem? (i := 560) (by decide +kernel), List.mem_of_getElem? (i := 561) (by decide +kernel)⟩
theorem lw_p12 : lw_okq (⟨"LanternBoats", "gained", "(I)I"⟩, 4) := ⟨⟨by decide +kernel, by decide +kernel⟩, List.mem_of_getElem? (i := 15) (by decide +kernel), List.mem_of_getElem? (i := 568) (by decide +kernel), List.mem_of_getElem? (i := 569) (by decide +kernel)⟩
theorem lw_p13 : lw_okq (⟨"LanternBoats$Memory", "slotAt", "(I)LLanternBoats$Coast;"⟩, 5) := ⟨⟨by decide +kernel, by decide +kernel⟩, List.mem_of_getElem? (i := 184) (by decide +kernel), List.mem_of_getElem? (i := 587) (by decide +kernel), List.mem_of_getElem? (i := 588) (by decide +kernel)⟩
def lw_privs_1 : List (MethodName × Nat) := [(⟨"LanternBoats$Coast", "reset", "()V"⟩, 11), (⟨"java/lang/Throwable", "fillInStackTrace", "(I)Ljava/lang/Throwable;"⟩, 6), (⟨"LanternBoats$Coast", "servedBoats", "()I"⟩, 11), (⟨"LanternBoats$Coast", "talkingBoats", "()I"⟩, 11), (⟨"LanternBoats$Memory", "stateAt", "(I)LLanternBoats$Coast;"⟩, 5), (⟨"LanternBoats", "takeTurn", "(I)V"⟩, 4), (⟨"LanternBoats$Coast", "sail", "(LLanternBoats$Boat;)V"⟩, 11), (⟨"LanternBoats$Coast", "lose", "(LLanternBoats$Boat;)V"⟩, 11), (⟨"LanternBoats$Coast", "serve", "(LLanternBoats$Boat;I)V"⟩, 11), (⟨"LanternBoats$Coast", "seekKeeper", "(LLanternBoats$Boat;)V"⟩, 11), (⟨"LanternBoats$Coast", "bestWish", "(LLanternBoats$Boat;LLanternBoats$Light;)I"⟩, 11), (⟨"LanternBoats$Coast", "ask", "(LLanternBoats$Boat;)V"⟩, 11), (⟨"LanternBoats", "gained", "(I)I"⟩, 4), (⟨"LanternBoats$Memory", "slotAt", "(I)LLanternBoats$Coast;"⟩, 5)]
theorem lw_r1 : ∀ q ∈ lw_privs_1, lw_okq q := List.forall_mem_cons.mpr ⟨lw_p0, List.forall_mem_cons.mpr ⟨lw_p1, List.forall_mem_cons.mpr ⟨lw_p2, List.forall_mem_cons.mpr ⟨lw_p3, List.forall_mem_cons.mpr ⟨lw_p4, List.forall_mem_cons.mpr ⟨lw_p5, List.forall_mem_cons.mpr ⟨lw_p6, List.forall_mem_cons.mpr ⟨lw_p7, List.forall_mem_cons.mpr ⟨lw_p8, List.forall_mem_cons.mpr ⟨lw_p9, List.forall_mem_cons.mpr ⟨lw_p10, List.forall_mem_cons.mpr ⟨lw_p11, List.forall_mem_cons.mpr ⟨lw_p12, List.forall_mem_cons.mpr ⟨lw_p13, fun _ h => absurd h List.not_mem_nil⟩⟩⟩⟩⟩⟩⟩⟩⟩⟩⟩⟩⟩⟩
def lw_privs : List (MethodName × Nat) := lw_privs_1
def lw_tbl : List Cond := k2_sels lw_privs ++ tables_1
theorem lw_privs_ok : ∀ q ∈ lw_privs, lw_okq q := lw_r1
def RX0 : String := "LanternBoats$Boat"
def TX0 : u_T := fun k => match k with
  | 0 => ("LanternBoats$Boat", "bit", "I", true)
  | 1 => ("LanternBoats$Boat", "place", "I", false)
  | 2 => ("LanternBoats$Boat", "speed", "I", false)
  | 3 => ("LanternBoats$Boat", "keeper", "I", false)
  | 4 => ("LanternBoats$Boat", "talkLeft", "I", false)
  | 5 => ("LanternBoats$Boat", "wish", "I", false)
  | 6 => ("LanternBoats$Boat", "wishTicks", "I", false)
  | 7 => ("LanternBoats$Boat", "leftLast", "I", false)
  | 8 => ("LanternBoats$Boat", "leftTime", "I", false)
  | 9 => ("LanternBoats$Boat", "handed", "I", false)
  | _ => ("LanternBoats$Boat", "back", "I", false)
def tyX0 : Nat → FieldType := fun k => match k with
  | 0 => .int
  | 1 => .int
  | 2 => .int
  | 3 => .int
  | 4 => .int
  | 5 => .int
  | 6 => .int
  | 7 => .int
  | 8 => .int
  | 9 => .int
  | _ => .int
abbrev wsX00 : List Cond := u_ws RX0 TX0 11
theorem nmX0 : ∀ a, a < 11 → ∀ b, b < 11 → a ≠ b → (TX0 a).2.1 ≠ (TX0 b).2.1 := by decide +kernel
theorem tyX0_ok : ∀ k, k < 11 → parseFieldDescriptor (TX0 k).2.2.1 = some (tyX0 k) := by decide +kernel
abbrev cX0_init : ByteArray := prog_2_method_1_code
def yX0_init : MethodName := ⟨RX0, "<init>", "(I)V"⟩
abbrev cX0_begin : ByteArray := prog_2_method_2_code
def yX0_begin : MethodName := ⟨RX0, "begin", "(II)V"⟩
abbrev cX0_copyFrom : ByteArray := prog_2_method_3_code
def yX0_copyFrom : MethodName := ⟨RX0, "copyFrom", "(LLanternBoats$Boat;)V"⟩
abbrev cX0_numberOf : ByteArray := prog_2_method_4_code
def yX0_numberOf : MethodName := ⟨RX0, "numberOf", "(I)I"⟩
abbrev cX0_move : ByteArray := prog_2_method_5_code
def yX0_move : MethodName := ⟨RX0, "move", "()V"⟩
abbrev cX0_wishFor : ByteArray := prog_2_method_6_code
def yX0_wishFor : MethodName := ⟨RX0, "wishFor", "(I)V"⟩
def RX1 : String := "LanternBoats$Coast"
def TX1 : u_T := fun k => match k with
  | 0 => ("LanternBoats$Coast", "lights", "[LLanternBoats$Light;", true)
  | 1 => ("LanternBoats$Coast", "boats", "[LLanternBoats$Boat;", true)
  | 2 => ("LanternBoats$Coast", "settings", "[I", true)
  | 3 => ("LanternBoats$Coast", "lightCount", "I", false)
  | 4 => ("LanternBoats$Coast", "boatCount", "I", false)
  | 5 => ("LanternBoats$Coast", "time", "I", false)
  | 6 => ("LanternBoats$Coast", "handed", "I", false)
  | 7 => ("LanternBoats$Coast", "back", "I", false)
  | 8 => ("LanternBoats$Coast", "refused", "I", false)
  | 9 => ("LanternBoats$Coast", "lost", "I", false)
  | _ => ("LanternBoats$Coast", "taken", "I", false)
def tyX1 : Nat → FieldType := fun k => match k with
  | 0 => .array (.object "LanternBoats$Light")
  | 1 => .array (.object "LanternBoats$Boat")
  | 2 => .array .int
  | 3 => .int
  | 4 => .int
  | 5 => .int
  | 6 => .int
  | 7 => .int
  | 8 => .int
  | 9 => .int
  | _ => .int
abbrev wsX10 : List Cond := u_ws RX1 TX1 11
theorem nmX1 : ∀ a, a < 11 → ∀ b, b < 11 → a ≠ b → (TX1 a).2.1 ≠ (TX1 b).2.1 := by decide +kernel
theorem tyX1_ok : ∀ k, k < 11 → parseFieldDescriptor (TX1 k).2.2.1 = some (tyX1 k) := by decide +kernel
abbrev cX1_init : ByteArray := prog_3_method_1_code
def yX1_init : MethodName := ⟨RX1, "<init>", "()V"⟩
abbrev cX1_reset : ByteArray := prog_3_method_2_code
def yX1_reset : MethodName := ⟨RX1, "reset", "()V"⟩
abbrev cX1_copyFrom : ByteArray := prog_3_method_3_code
def yX1_copyFrom : MethodName := ⟨RX1, "copyFrom", "(LLanternBoats$Coast;)V"⟩
abbrev cX1_lightAt : ByteArray := prog_3_method_4_code
def yX1_lightAt : MethodName := ⟨RX1, "lightAt", "(I)LLanternBoats$Light;"⟩
abbrev cX1_boatAt : ByteArray := prog_3_method_5_code
def yX1_boatAt : MethodName := ⟨RX1, "boatAt", "(I)LLanternBoats$Boat;"⟩
abbrev cX1_settingOf : ByteArray := prog_3_method_6_code
def yX1_settingOf : MethodName := ⟨RX1, "settingOf", "(I)I"⟩
abbrev cX1_numberOf : ByteArray := prog_3_method_7_code
def yX1_numberOf : MethodName := ⟨RX1, "numberOf", "(I)I"⟩
abbrev cX1_servedBoats : ByteArray := prog_3_method_8_code
def yX1_servedBoats : MethodName := ⟨RX1, "servedBoats", "()I"⟩
abbrev cX1_talkingBoats : ByteArray := prog_3_method_9_code
def yX1_talkingBoats : MethodName := ⟨RX1, "talkingBoats", "()I"⟩
abbrev cX1_brightest : ByteArray := prog_3_method_10_code
def yX1_brightest : MethodName := ⟨RX1, "brightest", "(I)I"⟩
abbrev cX1_isDark : ByteArray := prog_3_method_11_code
def yX1_isDark : MethodName := ⟨RX1, "isDark", "(I)Z"⟩
abbrev cX1_freePlaces : ByteArray := prog_3_method_12_code
def yX1_freePlaces : MethodName := ⟨RX1, "freePlaces", "()I"⟩
abbrev cX1_lightFault : ByteArray := prog_3_method_16_code
def yX1_lightFault : MethodName := ⟨RX1, "lightFault", "(IIIIII)I"⟩
abbrev cX1_boatFault : ByteArray := prog_3_method_17_code
def yX1_boatFault : MethodName := ⟨RX1, "boatFault", "(II)I"⟩
abbrev cX1_steerFault : ByteArray := prog_3_method_18_code
def yX1_steerFault : MethodName := ⟨RX1, "steerFault", "(II)I"⟩
abbrev cX1_talkFault : ByteArray := prog_3_method_19_code
def yX1_talkFault : MethodName := ⟨RX1, "talkFault", "(II)I"⟩
abbrev cX1_leanFault : ByteArray := prog_3_method_20_code
def yX1_leanFault : MethodName := ⟨RX1, "leanFault", "(II)I"⟩
abbrev cX1_dimFault : ByteArray := prog_3_method_21_code
def yX1_dimFault : MethodName := ⟨RX1, "dimFault", "(II)I"⟩
abbrev cX1_addLight : ByteArray := prog_3_method_22_code
def yX1_addLight : MethodName := ⟨RX1, "addLight", "(IIIIII)I"⟩
abbrev cX1_addBoat : ByteArray := prog_3_method_23_code
def yX1_addBoat : MethodName := ⟨RX1, "addBoat", "(II)I"⟩
abbrev cX1_putSpeed : ByteArray := prog_3_method_24_code
def yX1_putSpeed : MethodName := ⟨RX1, "putSpeed", "(II)I"⟩
abbrev cX1_putTalk : ByteArray := prog_3_method_25_code
def yX1_putTalk : MethodName := ⟨RX1, "putTalk", "(II)I"⟩
abbrev cX1_putLeaning : ByteArray := prog_3_method_26_code
def yX1_putLeaning : MethodName := ⟨RX1, "putLeaning", "(II)I"⟩
abbrev cX1_putStrength : ByteArray := prog_3_method_27_code
def yX1_putStrength : MethodName := ⟨RX1, "putStrength", "(II)I"⟩
abbrev cX1_putSetting : ByteArray := prog_3_method_28_code
def yX1_putSetting : MethodName := ⟨RX1, "putSetting", "(II)I"⟩
abbrev cX1_tryLight : ByteArray := prog_3_method_29_code
def yX1_tryLight : MethodName := ⟨RX1, "tryLight", "(IIIIII)Z"⟩
abbrev cX1_tryBoat : ByteArray := prog_3_method_30_code
def yX1_tryBoat : MethodName := ⟨RX1, "tryBoat", "(II)Z"⟩
abbrev cX1_trySteer : ByteArray := prog_3_method_31_code
def yX1_trySteer : MethodName := ⟨RX1, "trySteer", "(II)Z"⟩
abbrev cX1_tryTalk : ByteArray := prog_3_method_32_code
def yX1_tryTalk : MethodName := ⟨RX1, "tryTalk", "(II)Z"⟩
abbrev cX1_tryLean : ByteArray := prog_3_method_33_code
def yX1_tryLean : MethodName := ⟨RX1, "tryLean", "(II)Z"⟩
abbrev cX1_tryDim : ByteArray := prog_3_method_34_code
def yX1_tryDim : MethodName := ⟨RX1, "tryDim", "(II)Z"⟩
abbrev cX1_pass : ByteArray := prog_3_method_36_code
def yX1_pass : MethodName := ⟨RX1, "pass", "(I)V"⟩
abbrev cX1_sail : ByteArray := prog_3_method_37_code
def yX1_sail : MethodName := ⟨RX1, "sail", "(LLanternBoats$Boat;)V"⟩
abbrev cX1_lose : ByteArray := prog_3_method_38_code
def yX1_lose : MethodName := ⟨RX1, "lose", "(LLanternBoats$Boat;)V"⟩
abbrev cX1_bestWish : ByteArray := prog_3_method_39_code
def yX1_bestWish : MethodName := ⟨RX1, "bestWish", "(LLanternBoats$Boat;LLanternBoats$Light;)I"⟩
abbrev cX1_ask : ByteArray := prog_3_method_40_code
def yX1_ask : MethodName := ⟨RX1, "ask", "(LLanternBoats$Boat;)V"⟩
abbrev cX1_seekKeeper : ByteArray := prog_3_method_41_code
def yX1_seekKeeper : MethodName := ⟨RX1, "seekKeeper", "(LLanternBoats$Boat;)V"⟩
abbrev cX1_serve : ByteArray := prog_3_method_42_code
def yX1_serve : MethodName := ⟨RX1, "serve", "(LLanternBoats$Boat;I)V"⟩
def RX2 : String := "LanternBoats$Light"
def TX2 : u_T := fun k => match k with
  | 0 => ("LanternBoats$Light", "place", "I", false)
  | 1 => ("LanternBoats$Light", "strength", "I", false)
  | 2 => ("LanternBoats$Light", "kind", "I", false)
  | 3 => ("LanternBoats$Light", "n", "I", false)
  | 4 => ("LanternBoats$Light", "most", "I", false)
  | 5 => ("LanternBoats$Light", "reserved", "I", false)
  | 6 => ("LanternBoats$Light", "leaning", "I", false)
  | 7 => ("LanternBoats$Light", "served", "I", false)
  | _ => ("LanternBoats$Light", "handedTo", "I", false)
def tyX2 : Nat → FieldType := fun k => match k with
  | 0 => .int
  | 1 => .int
  | 2 => .int
  | 3 => .int
  | 4 => .int
  | 5 => .int
  | 6 => .int
  | 7 => .int
  | _ => .int
abbrev wsX20 : List Cond := u_ws RX2 TX2 9
theorem nmX2 : ∀ a, a < 9 → ∀ b, b < 9 → a ≠ b → (TX2 a).2.1 ≠ (TX2 b).2.1 := by decide +kernel
theorem tyX2_ok : ∀ k, k < 9 → parseFieldDescriptor (TX2 k).2.2.1 = some (tyX2 k) := by decide +kernel
abbrev cX2_init : ByteArray := prog_4_method_1_code
def yX2_init : MethodName := ⟨RX2, "<init>", "()V"⟩
abbrev cX2_begin : ByteArray := prog_4_method_2_code
def yX2_begin : MethodName := ⟨RX2, "begin", "(IIIIII)V"⟩
abbrev cX2_copyFrom : ByteArray := prog_4_method_3_code
def yX2_copyFrom : MethodName := ⟨RX2, "copyFrom", "(LLanternBoats$Light;)V"⟩
abbrev cX2_numberOf : ByteArray := prog_4_method_4_code
def yX2_numberOf : MethodName := ⟨RX2, "numberOf", "(I)I"⟩
abbrev cX2_brightnessAt : ByteArray := prog_4_method_5_code
def yX2_brightnessAt : MethodName := ⟨RX2, "brightnessAt", "(II)I"⟩
abbrev cX2_worthAt : ByteArray := prog_4_method_6_code
def yX2_worthAt : MethodName := ⟨RX2, "worthAt", "(II)I"⟩
abbrev cX2_servedCount : ByteArray := prog_4_method_7_code
def yX2_servedCount : MethodName := ⟨RX2, "servedCount", "()I"⟩
abbrev cX2_takesHandedOn : ByteArray := prog_4_method_8_code
def yX2_takesHandedOn : MethodName := ⟨RX2, "takesHandedOn", "()Z"⟩
abbrev cX2_takesOthers : ByteArray := prog_4_method_9_code
def yX2_takesOthers : MethodName := ⟨RX2, "takesOthers", "()Z"⟩
def RX3 : String := "LanternBoats$Memory"
def TX3 : u_T := fun k => match k with
  | 0 => ("LanternBoats$Memory", "states", "[LLanternBoats$Coast;", true)
  | 1 => ("LanternBoats$Memory", "slots", "[LLanternBoats$Coast;", true)
  | 2 => ("LanternBoats$Memory", "first", "I", false)
  | 3 => ("LanternBoats$Memory", "count", "I", false)
  | _ => ("LanternBoats$Memory", "keptSlots", "I", false)
def tyX3 : Nat → FieldType := fun k => match k with
  | 0 => .array (.object "LanternBoats$Coast")
  | 1 => .array (.object "LanternBoats$Coast")
  | 2 => .int
  | 3 => .int
  | _ => .int
abbrev wsX30 : List Cond := u_ws RX3 TX3 5
theorem nmX3 : ∀ a, a < 5 → ∀ b, b < 5 → a ≠ b → (TX3 a).2.1 ≠ (TX3 b).2.1 := by decide +kernel
theorem tyX3_ok : ∀ k, k < 5 → parseFieldDescriptor (TX3 k).2.2.1 = some (tyX3 k) := by decide +kernel
abbrev cX3_init : ByteArray := prog_5_method_1_code
def yX3_init : MethodName := ⟨RX3, "<init>", "()V"⟩
abbrev cX3_hasStates : ByteArray := prog_5_method_3_code
def yX3_hasStates : MethodName := ⟨RX3, "hasStates", "()Z"⟩
abbrev cX3_remember : ByteArray := prog_5_method_4_code
def yX3_remember : MethodName := ⟨RX3, "remember", "(LLanternBoats$Coast;)V"⟩
abbrev cX3_takeBack : ByteArray := prog_5_method_5_code
def yX3_takeBack : MethodName := ⟨RX3, "takeBack", "(LLanternBoats$Coast;)I"⟩
abbrev cX3_stateAt : ByteArray := prog_5_method_6_code
def yX3_stateAt : MethodName := ⟨RX3, "stateAt", "(I)LLanternBoats$Coast;"⟩
abbrev cX3_isSlot : ByteArray := prog_5_method_7_code
def yX3_isSlot : MethodName := ⟨RX3, "isSlot", "(I)Z"⟩
abbrev cX3_isKept : ByteArray := prog_5_method_8_code
def yX3_isKept : MethodName := ⟨RX3, "isKept", "(I)Z"⟩
abbrev cX3_keep : ByteArray := prog_5_method_9_code
def yX3_keep : MethodName := ⟨RX3, "keep", "(ILLanternBoats$Coast;)V"⟩
abbrev cX3_bring : ByteArray := prog_5_method_10_code
def yX3_bring : MethodName := ⟨RX3, "bring", "(ILLanternBoats$Coast;)V"⟩
abbrev cX3_slotAt : ByteArray := prog_5_method_11_code
def yX3_slotAt : MethodName := ⟨RX3, "slotAt", "(I)LLanternBoats$Coast;"⟩
def RX4 : String := "LanternBoats$Text"
def TX4 : u_T := fun k => match k with
  | 0 => ("LanternBoats$Text", "signs", "[C", true)
  | 1 => ("LanternBoats$Text", "numbers", "[I", true)
  | 2 => ("LanternBoats$Text", "length", "I", false)
  | 3 => ("LanternBoats$Text", "at", "I", false)
  | _ => ("LanternBoats$Text", "letter", "I", false)
def tyX4 : Nat → FieldType := fun k => match k with
  | 0 => .array .char
  | 1 => .array .int
  | 2 => .int
  | 3 => .int
  | _ => .int
abbrev wsX40 : List Cond := u_ws RX4 TX4 5
theorem nmX4 : ∀ a, a < 5 → ∀ b, b < 5 → a ≠ b → (TX4 a).2.1 ≠ (TX4 b).2.1 := by decide +kernel
theorem tyX4_ok : ∀ k, k < 5 → parseFieldDescriptor (TX4 k).2.2.1 = some (tyX4 k) := by decide +kernel
abbrev cX4_init : ByteArray := prog_6_method_1_code
def yX4_init : MethodName := ⟨RX4, "<init>", "()V"⟩
def RX5 : String := "LanternBoats"
def TX5 : u_T := fun k => match k with
  | 0 => ("LanternBoats", "text", "LLanternBoats$Text;", true)
  | 1 => ("LanternBoats", "coast", "LLanternBoats$Coast;", true)
  | 2 => ("LanternBoats", "trial", "LLanternBoats$Coast;", true)
  | _ => ("LanternBoats", "memory", "LLanternBoats$Memory;", true)
def tyX5 : Nat → FieldType := fun k => match k with
  | 0 => .object "LanternBoats$Text"
  | 1 => .object "LanternBoats$Coast"
  | 2 => .object "LanternBoats$Coast"
  | _ => .object "LanternBoats$Memory"
abbrev wsX50 : List Cond := u_ws RX5 TX5 4
theorem nmX5 : ∀ a, a < 4 → ∀ b, b < 4 → a ≠ b → (TX5 a).2.1 ≠ (TX5 b).2.1 := by decide +kernel
theorem tyX5_ok : ∀ k, k < 4 → parseFieldDescriptor (TX5 k).2.2.1 = some (tyX5 k) := by decide +kernel
abbrev cX5_init : ByteArray := prog_1_method_1_code
def yX5_init : MethodName := ⟨RX5, "<init>", "()V"⟩
abbrev cX5_about : ByteArray := prog_1_method_7_code
def yX5_about : MethodName := ⟨RX5, "about", "(I)I"⟩
abbrev cX5_lightOf : ByteArray := prog_1_method_8_code
def yX5_lightOf : MethodName := ⟨RX5, "lightOf", "(II)I"⟩
abbrev cX5_boatOf : ByteArray := prog_1_method_9_code
def yX5_boatOf : MethodName := ⟨RX5, "boatOf", "(II)I"⟩
abbrev cX5_bestAt : ByteArray := prog_1_method_11_code
def yX5_bestAt : MethodName := ⟨RX5, "bestAt", "(II)I"⟩
abbrev cX5_setting : ByteArray := prog_1_method_12_code
def yX5_setting : MethodName := ⟨RX5, "setting", "(I)I"⟩
abbrev cX5_light : ByteArray := prog_1_method_13_code
def yX5_light : MethodName := ⟨RX5, "light", "(IIIIII)I"⟩
abbrev cX5_boat : ByteArray := prog_1_method_14_code
def yX5_boat : MethodName := ⟨RX5, "boat", "(II)I"⟩
abbrev cX5_steer : ByteArray := prog_1_method_15_code
def yX5_steer : MethodName := ⟨RX5, "steer", "(II)I"⟩
abbrev cX5_talk : ByteArray := prog_1_method_16_code
def yX5_talk : MethodName := ⟨RX5, "talk", "(II)I"⟩
abbrev cX5_dim : ByteArray := prog_1_method_18_code
def yX5_dim : MethodName := ⟨RX5, "dim", "(II)I"⟩
abbrev cX5_set : ByteArray := prog_1_method_19_code
def yX5_set : MethodName := ⟨RX5, "set", "(II)I"⟩
abbrev cX5_ticks : ByteArray := prog_1_method_20_code
def yX5_ticks : MethodName := ⟨RX5, "ticks", "(I)I"⟩
abbrev cX5_undo : ByteArray := prog_1_method_21_code
def yX5_undo : MethodName := ⟨RX5, "undo", "()I"⟩
abbrev cX5_gained : ByteArray := prog_1_method_26_code
def yX5_gained : MethodName := ⟨RX5, "gained", "(I)I"⟩
abbrev cX5_dark : ByteArray := prog_1_method_28_code
def yX5_dark : MethodName := ⟨RX5, "dark", "()I"⟩
abbrev cX5_border : ByteArray := prog_1_method_29_code
def yX5_border : MethodName := ⟨RX5, "border", "(I)I"⟩
abbrev cX5_room : ByteArray := prog_1_method_30_code
def yX5_room : MethodName := ⟨RX5, "room", "()I"⟩
abbrev cX5_simulate : ByteArray := prog_1_method_34_code
def yX5_simulate : MethodName := ⟨RX5, "simulate", "(JI)I"⟩
abbrev cX5_takeTurn : ByteArray := prog_1_method_35_code
def yX5_takeTurn : MethodName := ⟨RX5, "takeTurn", "(I)V"⟩
abbrev cX5_shown : ByteArray := prog_1_method_36_code
def yX5_shown : MethodName := ⟨RX5, "shown", "(I)I"⟩
abbrev cX5_save : ByteArray := prog_1_method_37_code
def yX5_save : MethodName := ⟨RX5, "save", "(I)I"⟩
abbrev cX5_restore : ByteArray := prog_1_method_38_code
def yX5_restore : MethodName := ⟨RX5, "restore", "(I)I"⟩
abbrev cX5_throwFault : ByteArray := prog_1_method_39_code
def yX5_throwFault : MethodName := ⟨RX5, "throwFault", "(I)V"⟩
abbrev cX5_isPlace : ByteArray := prog_1_method_40_code
def yX5_isPlace : MethodName := ⟨RX5, "isPlace", "(I)Z"⟩
abbrev cX5_isSpeed : ByteArray := prog_1_method_41_code
def yX5_isSpeed : MethodName := ⟨RX5, "isSpeed", "(I)Z"⟩
abbrev cX5_isStrength : ByteArray := prog_1_method_42_code
def yX5_isStrength : MethodName := ⟨RX5, "isStrength", "(I)Z"⟩
abbrev cX5_isTickCount : ByteArray := prog_1_method_43_code
def yX5_isTickCount : MethodName := ⟨RX5, "isTickCount", "(I)Z"⟩
abbrev cX5_isSetting : ByteArray := prog_1_method_44_code
def yX5_isSetting : MethodName := ⟨RX5, "isSetting", "(I)Z"⟩
abbrev cX5_isSettingValue : ByteArray := prog_1_method_45_code
def yX5_isSettingValue : MethodName := ⟨RX5, "isSettingValue", "(II)Z"⟩
def RX6 : String := "LanternBoatsModel"
def TX6 : u_T := fun k => match k with
  | _ => ("", "", "", false)
def tyX6 : Nat → FieldType := fun k => match k with
  | _ => .int
abbrev wsX60 : List Cond := u_ws RX6 TX6 0
theorem nmX6 : ∀ a, a < 0 → ∀ b, b < 0 → a ≠ b → (TX6 a).2.1 ≠ (TX6 b).2.1 := by decide +kernel
theorem tyX6_ok : ∀ k, k < 0 → parseFieldDescriptor (TX6 k).2.2.1 = some (tyX6 k) := by decide +kernel
def RJ6 : String := "java/lang/Integer"
def TJ6 : u_T := fun k => match k with
  | _ => ("", "", "", false)
def tyJ6 : Nat → FieldType := fun k => match k with
  | _ => .int
abbrev wsJ60 : List Cond := u_ws RJ6 TJ6 0
theorem nmJ6 : ∀ a, a < 0 → ∀ b, b < 0 → a ≠ b → (TJ6 a).2.1 ≠ (TJ6 b).2.1 := by decide +kernel
theorem tyJ6_ok : ∀ k, k < 0 → parseFieldDescriptor (TJ6 k).2.2.1 = some (tyJ6 k) := by decide +kernel
abbrev cJ6_bitCount_0f7a4 : ByteArray := prog_13_method_49_code
def yJ6_bitCount_0f7a4 : MethodName := ⟨RJ6, "bitCount", "(I)I"⟩
def RJ0 : String := "java/lang/String"
def TJ0 : u_T := fun k => match k with
  | _ => ("", "", "", false)
def tyJ0 : Nat → FieldType := fun k => match k with
  | _ => .int
abbrev wsJ00 : List Cond := u_ws RJ0 TJ0 0
theorem nmJ0 : ∀ a, a < 0 → ∀ b, b < 0 → a ≠ b → (TJ0 a).2.1 ≠ (TJ0 b).2.1 := by decide +kernel
theorem tyJ0_ok : ∀ k, k < 0 → parseFieldDescriptor (TJ0 k).2.2.1 = some (tyJ0 k) := by decide +kernel
def RL : String := "LanternBoatsLaw"
abbrev cL_cell : ByteArray := method_2_code
def yL_cell : MethodName := ⟨RL, "cell", "([II)I"⟩
abbrev cL_low : ByteArray := method_3_code
def yL_low : MethodName := ⟨RL, "low", "(II)I"⟩
abbrev cL_told : ByteArray := method_4_code
def yL_told : MethodName := ⟨RL, "told", "(LLanternBoats;)J"⟩
abbrev cL_act : ByteArray := method_5_code
def yL_act : MethodName := ⟨RL, "act", "(LLanternBoats;II)I"⟩
abbrev cL_holds : ByteArray := method_6_code
def yL_holds : MethodName := ⟨RL, "holds", "(LLanternBoats;)Z"⟩
abbrev cL_law : ByteArray := code
def yL_law : MethodName := ⟨RL, "law", "([I)Z"⟩
