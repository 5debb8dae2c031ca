-- ===== PART A: goes FIRST, ahead of the names: the tables' words, and 'selects' of the private methods out of them =====
/-- a private method of a class that the tables say can be made, by its rows of tables_1 -/
def lw_okq (q : MethodName × Nat) : Prop := (q.1.cls ≠ "java/lang/invoke/MethodHandle" ∧ q.1.cls ≠ "java/lang/invoke/VarHandle") ∧ Cond.instantiable q.1.cls q.2 ∈ tables_1 ∧ Cond.privateMethod q.1 ∈ tables_1 ∧ Cond.instanceMethod q.1 ∈ tables_1
theorem lw_p0 : lw_okq (⟨"LanternBoats$Coast", "reset", "()V"⟩, 11) := ⟨⟨by decide +kernel, by decide +kernel⟩, List.mem_of_getElem? (i := 49) (by decide +kernel), List.mem_of_getElem? (i := 150) (by decide +kernel), List.mem_of_getElem? (i := 151) (by decide +kernel)⟩
theorem lw_p1 : lw_okq (⟨"LanternBoats$Text", "signAt", "(I)I"⟩, 5) := ⟨⟨by decide +kernel, by decide +kernel⟩, List.mem_of_getElem? (i := 24) (by decide +kernel), List.mem_of_getElem? (i := 250) (by decide +kernel), List.mem_of_getElem? (i := 251) (by decide +kernel)⟩
theorem lw_p2 : lw_okq (⟨"LanternBoats$Text", "readNumber", "(III)I"⟩, 5) := ⟨⟨by decide +kernel, by decide +kernel⟩, List.mem_of_getElem? (i := 24) (by decide +kernel), List.mem_of_getElem? (i := 277) (by decide +kernel), List.mem_of_getElem? (i := 278) (by decide +kernel)⟩
theorem lw_p3 : lw_okq (⟨"java/lang/Throwable", "fillInStackTrace", "(I)Ljava/lang/Throwable;"⟩, 6) := ⟨⟨by decide +kernel, by decide +kernel⟩, List.mem_of_getElem? (i := 366) (by decide +kernel), List.mem_of_getElem? (i := 364) (by decide +kernel), List.mem_of_getElem? (i := 365) (by decide +kernel)⟩
theorem lw_p4 : lw_okq (⟨"LanternBoats", "obeyCommand", "()Z"⟩, 4) := ⟨⟨by decide +kernel, by decide +kernel⟩, List.mem_of_getElem? (i := 16) (by decide +kernel), List.mem_of_getElem? (i := 436) (by decide +kernel), List.mem_of_getElem? (i := 437) (by decide +kernel)⟩
theorem lw_p5 : lw_okq (⟨"LanternBoats$Coast", "sail", "(LLanternBoats$Boat;)V"⟩, 11) := ⟨⟨by decide +kernel, by decide +kernel⟩, List.mem_of_getElem? (i := 49) (by decide +kernel), List.mem_of_getElem? (i := 532) (by decide +kernel), List.mem_of_getElem? (i := 533) (by decide +kernel)⟩
theorem lw_p6 : lw_okq (⟨"LanternBoats$Coast", "lose", "(LLanternBoats$Boat;)V"⟩, 11) := ⟨⟨by decide +kernel, by decide +kernel⟩, List.mem_of_getElem? (i := 49) (by decide +kernel), List.mem_of_getElem? (i := 541) (by decide +kernel), List.mem_of_getElem? (i := 542) (by decide +kernel)⟩
theorem lw_p7 : lw_okq (⟨"LanternBoats$Coast", "serve", "(LLanternBoats$Boat;I)V"⟩, 11) := ⟨⟨by decide +kernel, by decide +kernel⟩, List.mem_of_getElem? (i := 49) (by decide +kernel), List.mem_of_getElem? (i := 545) (by decide +kernel), List.mem_of_getElem? (i := 546) (by decide +kernel)⟩
theorem lw_p8 : lw_okq (⟨"LanternBoats$Coast", "seekKeeper", "(LLanternBoats$Boat;)V"⟩, 11) := ⟨⟨by decide +kernel, by decide +kernel⟩, List.mem_of_getElem? (i := 49) (by decide +kernel), List.mem_of_getElem? (i := 553) (by decide +kernel), List.mem_of_getElem? (i := 554) (by decide +kernel)⟩
theorem lw_p9 : lw_okq (⟨"LanternBoats$Coast", "bestWish", "(LLanternBoats$Boat;LLanternBoats$Light;)I"⟩, 11) := ⟨⟨by decide +kernel, by decide +kernel⟩, List.mem_of_getElem? (i := 49) (by decide +kernel), List.mem_of_getElem? (i := 567) (by decide +kernel), List.mem_of_getElem? (i := 568) (by decide +kernel)⟩
theorem lw_p10 : lw_okq (⟨"LanternBoats$Coast", "ask", "(LLanternBoats$Boat;)V"⟩, 11) := ⟨⟨by decide +kernel, by decide +kernel⟩, List.mem_of_getElem? (i := 49) (by decide +kernel), List.mem_of_getElem? (i := 571) (by decide +kernel), List.mem_of_getElem? (i := 572) (by decide +kernel)⟩
theorem lw_p11 : lw_okq (⟨"LanternBoats$Coast", "servedBoats", "()I"⟩, 11) := ⟨⟨by decide +kernel, by decide +kernel⟩, List.mem_of_getElem? (i := 49) (by decide +kernel), List.mem_of_getElem? (i := 591) (by decide +kernel), List.mem_of_getElem? (i := 592) (by decide +kernel)⟩
theorem lw_p12 : lw_okq (⟨"LanternBoats$Coast", "talkingBoats", "()I"⟩, 11) := ⟨⟨by decide +kernel, by decide +kernel⟩, List.mem_of_getElem? (i := 49) (by decide +kernel), List.mem_of_getElem? (i := 595) (by decide +kernel), List.mem_of_getElem? (i := 596) (by decide +kernel)⟩
theorem lw_p13 : lw_okq (⟨"LanternBoats$Memory", "stateAt", "(I)LLanternBoats$Coast;"⟩, 5) := ⟨⟨by decide +kernel, by decide +kernel⟩, List.mem_of_getElem? (i := 192) (by decide +kernel), List.mem_of_getElem? (i := 696) (by decide +kernel), List.mem_of_getElem? (i := 697) (by decide +kernel)⟩
theorem lw_p14 : lw_okq (⟨"LanternBoats", "ticksUntilHanded", "(II)I"⟩, 4) := ⟨⟨by decide +kernel, by decide +kernel⟩, List.mem_of_getElem? (i := 16) (by decide +kernel), List.mem_of_getElem? (i := 815) (by decide +kernel), List.mem_of_getElem? (i := 816) (by decide +kernel)⟩
theorem lw_p15 : lw_okq (⟨"LanternBoats", "tryMargin", "(II)V"⟩, 4) := ⟨⟨by decide +kernel, by decide +kernel⟩, List.mem_of_getElem? (i := 16) (by decide +kernel), List.mem_of_getElem? (i := 829) (by decide +kernel), List.mem_of_getElem? (i := 830) (by decide +kernel)⟩
def lw_privs_1 : List (MethodName × Nat) := [(⟨"LanternBoats$Coast", "reset", "()V"⟩, 11), (⟨"LanternBoats$Text", "signAt", "(I)I"⟩, 5), (⟨"LanternBoats$Text", "readNumber", "(III)I"⟩, 5), (⟨"java/lang/Throwable", "fillInStackTrace", "(I)Ljava/lang/Throwable;"⟩, 6), (⟨"LanternBoats", "obeyCommand", "()Z"⟩, 4), (⟨"LanternBoats$Coast", "sail", "(LLanternBoats$Boat;)V"⟩, 11), (⟨"LanternBoats$Coast", "lose", "(LLanternBoats$Boat;)V"⟩, 11), (⟨"LanternBoats$Coast", "serve", "(LLanternBoats$Boat;I)V"⟩, 11), (⟨"LanternBoats$Coast", "seekKeeper", "(LLanternBoats$Boat;)V"⟩, 11), (⟨"LanternBoats$Coast", "bestWish", "(LLanternBoats$Boat;LLanternBoats$Light;)I"⟩, 11), (⟨"LanternBoats$Coast", "ask", "(LLanternBoats$Boat;)V"⟩, 11), (⟨"LanternBoats$Coast", "servedBoats", "()I"⟩, 11), (⟨"LanternBoats$Coast", "talkingBoats", "()I"⟩, 11), (⟨"LanternBoats$Memory", "stateAt", "(I)LLanternBoats$Coast;"⟩, 5), (⟨"LanternBoats", "ticksUntilHanded", "(II)I"⟩, 4), (⟨"LanternBoats", "tryMargin", "(II)V"⟩, 4)]
theorem lw_r1 : ∀ q ∈ lw_privs_1, lw_okq q := List.forall_mem_cons.mpr ⟨lw_p0, List.forall_mem_cons.mpr ⟨lw_p1, List.forall_mem_cons.mpr ⟨lw_p2, List.forall_mem_cons.mpr ⟨lw_p3, List.forall_mem_cons.mpr ⟨lw_p4, List.forall_mem_cons.mpr ⟨lw_p5, List.forall_mem_cons.mpr ⟨lw_p6, List.forall_mem_cons.mpr ⟨lw_p7, List.forall_mem_cons.mpr ⟨lw_p8, List.forall_mem_cons.mpr ⟨lw_p9, List.forall_mem_cons.mpr ⟨lw_p10, List.forall_mem_cons.mpr ⟨lw_p11, List.forall_mem_cons.mpr ⟨lw_p12, List.forall_mem_cons.mpr ⟨lw_p13, List.forall_mem_cons.mpr ⟨lw_p14, List.forall_mem_cons.mpr ⟨lw_p15, fun _ h => absurd h List.not_mem_nil⟩⟩⟩⟩⟩⟩⟩⟩⟩⟩⟩⟩⟩⟩⟩⟩
theorem lw_p16 : lw_okq (⟨"LanternBoats", "gained", "(I)I"⟩, 4) := ⟨⟨by decide +kernel, by decide +kernel⟩, List.mem_of_getElem? (i := 16) (by decide +kernel), List.mem_of_getElem? (i := 833) (by decide +kernel), List.mem_of_getElem? (i := 834) (by decide +kernel)⟩
theorem lw_p17 : lw_okq (⟨"LanternBoats", "runCommand", "(I)Z"⟩, 4) := ⟨⟨by decide +kernel, by decide +kernel⟩, List.mem_of_getElem? (i := 16) (by decide +kernel), List.mem_of_getElem? (i := 866) (by decide +kernel), List.mem_of_getElem? (i := 867) (by decide +kernel)⟩
theorem lw_p18 : lw_okq (⟨"LanternBoats", "takeTurn", "(I)V"⟩, 4) := ⟨⟨by decide +kernel, by decide +kernel⟩, List.mem_of_getElem? (i := 16) (by decide +kernel), List.mem_of_getElem? (i := 899) (by decide +kernel), List.mem_of_getElem? (i := 900) (by decide +kernel)⟩
theorem lw_p19 : lw_okq (⟨"LanternBoats$Memory", "slotAt", "(I)LLanternBoats$Coast;"⟩, 5) := ⟨⟨by decide +kernel, by decide +kernel⟩, List.mem_of_getElem? (i := 192) (by decide +kernel), List.mem_of_getElem? (i := 927) (by decide +kernel), List.mem_of_getElem? (i := 928) (by decide +kernel)⟩
theorem lw_p20 : lw_okq (⟨"LanternBoatsModel", "begins", "()V"⟩, 14) := ⟨⟨by decide +kernel, by decide +kernel⟩, List.mem_of_getElem? (i := 948) (by decide +kernel), List.mem_of_getElem? (i := 954) (by decide +kernel), List.mem_of_getElem? (i := 955) (by decide +kernel)⟩
theorem lw_p21 : lw_okq (⟨"LanternBoatsModel", "fails", "(I)I"⟩, 14) := ⟨⟨by decide +kernel, by decide +kernel⟩, List.mem_of_getElem? (i := 948) (by decide +kernel), List.mem_of_getElem? (i := 1013) (by decide +kernel), List.mem_of_getElem? (i := 1014) (by decide +kernel)⟩
theorem lw_p22 : lw_okq (⟨"LanternBoatsModel", "readsAll", "(Z)V"⟩, 14) := ⟨⟨by decide +kernel, by decide +kernel⟩, List.mem_of_getElem? (i := 948) (by decide +kernel), List.mem_of_getElem? (i := 1025) (by decide +kernel), List.mem_of_getElem? (i := 1026) (by decide +kernel)⟩
theorem lw_p23 : lw_okq (⟨"LanternBoatsModel", "sign", "()I"⟩, 14) := ⟨⟨by decide +kernel, by decide +kernel⟩, List.mem_of_getElem? (i := 948) (by decide +kernel), List.mem_of_getElem? (i := 1029) (by decide +kernel), List.mem_of_getElem? (i := 1030) (by decide +kernel)⟩
theorem lw_p24 : lw_okq (⟨"LanternBoatsModel", "carriesLight", "()I"⟩, 14) := ⟨⟨by decide +kernel, by decide +kernel⟩, List.mem_of_getElem? (i := 948) (by decide +kernel), List.mem_of_getElem? (i := 1036) (by decide +kernel), List.mem_of_getElem? (i := 1037) (by decide +kernel)⟩
theorem lw_p25 : lw_okq (⟨"LanternBoatsModel", "number", "(III)I"⟩, 14) := ⟨⟨by decide +kernel, by decide +kernel⟩, List.mem_of_getElem? (i := 948) (by decide +kernel), List.mem_of_getElem? (i := 1040) (by decide +kernel), List.mem_of_getElem? (i := 1041) (by decide +kernel)⟩
theorem lw_p26 : lw_okq (⟨"LanternBoatsModel", "actsLight", "(IIIIII)I"⟩, 14) := ⟨⟨by decide +kernel, by decide +kernel⟩, List.mem_of_getElem? (i := 948) (by decide +kernel), List.mem_of_getElem? (i := 1044) (by decide +kernel), List.mem_of_getElem? (i := 1045) (by decide +kernel)⟩
theorem lw_p27 : lw_okq (⟨"LanternBoatsModel", "addsLight", "(IIIIII)I"⟩, 14) := ⟨⟨by decide +kernel, by decide +kernel⟩, List.mem_of_getElem? (i := 948) (by decide +kernel), List.mem_of_getElem? (i := 1054) (by decide +kernel), List.mem_of_getElem? (i := 1055) (by decide +kernel)⟩
theorem lw_p28 : lw_okq (⟨"LanternBoatsModel", "carries", "(I)I"⟩, 14) := ⟨⟨by decide +kernel, by decide +kernel⟩, List.mem_of_getElem? (i := 948) (by decide +kernel), List.mem_of_getElem? (i := 1058) (by decide +kernel), List.mem_of_getElem? (i := 1059) (by decide +kernel)⟩
theorem lw_p29 : lw_okq (⟨"LanternBoatsModel", "actsBoat", "(II)I"⟩, 14) := ⟨⟨by decide +kernel, by decide +kernel⟩, List.mem_of_getElem? (i := 948) (by decide +kernel), List.mem_of_getElem? (i := 1062) (by decide +kernel), List.mem_of_getElem? (i := 1063) (by decide +kernel)⟩
theorem lw_p30 : lw_okq (⟨"LanternBoatsModel", "addsBoat", "(II)I"⟩, 14) := ⟨⟨by decide +kernel, by decide +kernel⟩, List.mem_of_getElem? (i := 948) (by decide +kernel), List.mem_of_getElem? (i := 1066) (by decide +kernel), List.mem_of_getElem? (i := 1067) (by decide +kernel)⟩
theorem lw_p31 : lw_okq (⟨"LanternBoatsModel", "layBoat", "(III)V"⟩, 14) := ⟨⟨by decide +kernel, by decide +kernel⟩, List.mem_of_getElem? (i := 948) (by decide +kernel), List.mem_of_getElem? (i := 1070) (by decide +kernel), List.mem_of_getElem? (i := 1071) (by decide +kernel)⟩
def lw_privs_2 : List (MethodName × Nat) := [(⟨"LanternBoats", "gained", "(I)I"⟩, 4), (⟨"LanternBoats", "runCommand", "(I)Z"⟩, 4), (⟨"LanternBoats", "takeTurn", "(I)V"⟩, 4), (⟨"LanternBoats$Memory", "slotAt", "(I)LLanternBoats$Coast;"⟩, 5), (⟨"LanternBoatsModel", "begins", "()V"⟩, 14), (⟨"LanternBoatsModel", "fails", "(I)I"⟩, 14), (⟨"LanternBoatsModel", "readsAll", "(Z)V"⟩, 14), (⟨"LanternBoatsModel", "sign", "()I"⟩, 14), (⟨"LanternBoatsModel", "carriesLight", "()I"⟩, 14), (⟨"LanternBoatsModel", "number", "(III)I"⟩, 14), (⟨"LanternBoatsModel", "actsLight", "(IIIIII)I"⟩, 14), (⟨"LanternBoatsModel", "addsLight", "(IIIIII)I"⟩, 14), (⟨"LanternBoatsModel", "carries", "(I)I"⟩, 14), (⟨"LanternBoatsModel", "actsBoat", "(II)I"⟩, 14), (⟨"LanternBoatsModel", "addsBoat", "(II)I"⟩, 14), (⟨"LanternBoatsModel", "layBoat", "(III)V"⟩, 14)]
theorem lw_r2 : ∀ q ∈ lw_privs_2, lw_okq q := List.forall_mem_cons.mpr ⟨lw_p16, List.forall_mem_cons.mpr ⟨lw_p17, List.forall_mem_cons.mpr ⟨lw_p18, List.forall_mem_cons.mpr ⟨lw_p19, List.forall_mem_cons.mpr ⟨lw_p20, List.forall_mem_cons.mpr ⟨lw_p21, List.forall_mem_cons.mpr ⟨lw_p22, List.forall_mem_cons.mpr ⟨lw_p23, List.forall_mem_cons.mpr ⟨lw_p24, List.forall_mem_cons.mpr ⟨lw_p25, List.forall_mem_cons.mpr ⟨lw_p26, List.forall_mem_cons.mpr ⟨lw_p27, List.forall_mem_cons.mpr ⟨lw_p28, List.forall_mem_cons.mpr ⟨lw_p29, List.forall_mem_cons.mpr ⟨lw_p30, List.forall_mem_cons.mpr ⟨lw_p31, fun _ h => absurd h List.not_mem_nil⟩⟩⟩⟩⟩⟩⟩⟩⟩⟩⟩⟩⟩⟩⟩⟩
theorem lw_p32 : lw_okq (⟨"LanternBoatsModel", "actsSteer", "(II)I"⟩, 14) := ⟨⟨by decide +kernel, by decide +kernel⟩, List.mem_of_getElem? (i := 948) (by decide +kernel), List.mem_of_getElem? (i := 1074) (by decide +kernel), List.mem_of_getElem? (i := 1075) (by decide +kernel)⟩
theorem lw_p33 : lw_okq (⟨"LanternBoatsModel", "isBoat", "(I)Z"⟩, 14) := ⟨⟨by decide +kernel, by decide +kernel⟩, List.mem_of_getElem? (i := 948) (by decide +kernel), List.mem_of_getElem? (i := 1078) (by decide +kernel), List.mem_of_getElem? (i := 1079) (by decide +kernel)⟩
theorem lw_p34 : lw_okq (⟨"LanternBoatsModel", "actsTalk", "(II)I"⟩, 14) := ⟨⟨by decide +kernel, by decide +kernel⟩, List.mem_of_getElem? (i := 948) (by decide +kernel), List.mem_of_getElem? (i := 1082) (by decide +kernel), List.mem_of_getElem? (i := 1083) (by decide +kernel)⟩
theorem lw_p35 : lw_okq (⟨"LanternBoatsModel", "canTalk", "(I)Z"⟩, 14) := ⟨⟨by decide +kernel, by decide +kernel⟩, List.mem_of_getElem? (i := 948) (by decide +kernel), List.mem_of_getElem? (i := 1086) (by decide +kernel), List.mem_of_getElem? (i := 1087) (by decide +kernel)⟩
theorem lw_p36 : lw_okq (⟨"LanternBoatsModel", "ofBoat", "(II)I"⟩, 14) := ⟨⟨by decide +kernel, by decide +kernel⟩, List.mem_of_getElem? (i := 948) (by decide +kernel), List.mem_of_getElem? (i := 1090) (by decide +kernel), List.mem_of_getElem? (i := 1091) (by decide +kernel)⟩
theorem lw_p37 : lw_okq (⟨"LanternBoatsModel", "actsSet", "(II)I"⟩, 14) := ⟨⟨by decide +kernel, by decide +kernel⟩, List.mem_of_getElem? (i := 948) (by decide +kernel), List.mem_of_getElem? (i := 1094) (by decide +kernel), List.mem_of_getElem? (i := 1095) (by decide +kernel)⟩
theorem lw_p38 : lw_okq (⟨"LanternBoatsModel", "actsTicks", "(I)I"⟩, 14) := ⟨⟨by decide +kernel, by decide +kernel⟩, List.mem_of_getElem? (i := 948) (by decide +kernel), List.mem_of_getElem? (i := 1104) (by decide +kernel), List.mem_of_getElem? (i := 1105) (by decide +kernel)⟩
theorem lw_p39 : lw_okq (⟨"LanternBoatsModel", "goesBy", "(II)I"⟩, 14) := ⟨⟨by decide +kernel, by decide +kernel⟩, List.mem_of_getElem? (i := 948) (by decide +kernel), List.mem_of_getElem? (i := 1108) (by decide +kernel), List.mem_of_getElem? (i := 1109) (by decide +kernel)⟩
theorem lw_p40 : lw_okq (⟨"LanternBoatsModel", "goesTick", "()V"⟩, 14) := ⟨⟨by decide +kernel, by decide +kernel⟩, List.mem_of_getElem? (i := 948) (by decide +kernel), List.mem_of_getElem? (i := 1112) (by decide +kernel), List.mem_of_getElem? (i := 1113) (by decide +kernel)⟩
theorem lw_p41 : lw_okq (⟨"LanternBoatsModel", "goesOn", "(I)V"⟩, 14) := ⟨⟨by decide +kernel, by decide +kernel⟩, List.mem_of_getElem? (i := 948) (by decide +kernel), List.mem_of_getElem? (i := 1116) (by decide +kernel), List.mem_of_getElem? (i := 1117) (by decide +kernel)⟩
theorem lw_p42 : lw_okq (⟨"LanternBoatsModel", "sails", "(I)V"⟩, 14) := ⟨⟨by decide +kernel, by decide +kernel⟩, List.mem_of_getElem? (i := 948) (by decide +kernel), List.mem_of_getElem? (i := 1120) (by decide +kernel), List.mem_of_getElem? (i := 1121) (by decide +kernel)⟩
theorem lw_p43 : lw_okq (⟨"LanternBoatsModel", "bright", "(II)I"⟩, 14) := ⟨⟨by decide +kernel, by decide +kernel⟩, List.mem_of_getElem? (i := 948) (by decide +kernel), List.mem_of_getElem? (i := 1124) (by decide +kernel), List.mem_of_getElem? (i := 1125) (by decide +kernel)⟩
theorem lw_p44 : lw_okq (⟨"LanternBoatsModel", "of", "(II)I"⟩, 14) := ⟨⟨by decide +kernel, by decide +kernel⟩, List.mem_of_getElem? (i := 948) (by decide +kernel), List.mem_of_getElem? (i := 1128) (by decide +kernel), List.mem_of_getElem? (i := 1129) (by decide +kernel)⟩
theorem lw_p45 : lw_okq (⟨"LanternBoatsModel", "drops", "(I)V"⟩, 14) := ⟨⟨by decide +kernel, by decide +kernel⟩, List.mem_of_getElem? (i := 948) (by decide +kernel), List.mem_of_getElem? (i := 1132) (by decide +kernel), List.mem_of_getElem? (i := 1133) (by decide +kernel)⟩
theorem lw_p46 : lw_okq (⟨"LanternBoatsModel", "wishes", "(I)V"⟩, 14) := ⟨⟨by decide +kernel, by decide +kernel⟩, List.mem_of_getElem? (i := 948) (by decide +kernel), List.mem_of_getElem? (i := 1136) (by decide +kernel), List.mem_of_getElem? (i := 1137) (by decide +kernel)⟩
theorem lw_p47 : lw_okq (⟨"LanternBoatsModel", "wished", "(I)I"⟩, 14) := ⟨⟨by decide +kernel, by decide +kernel⟩, List.mem_of_getElem? (i := 948) (by decide +kernel), List.mem_of_getElem? (i := 1140) (by decide +kernel), List.mem_of_getElem? (i := 1141) (by decide +kernel)⟩
def lw_privs_3 : List (MethodName × Nat) := [(⟨"LanternBoatsModel", "actsSteer", "(II)I"⟩, 14), (⟨"LanternBoatsModel", "isBoat", "(I)Z"⟩, 14), (⟨"LanternBoatsModel", "actsTalk", "(II)I"⟩, 14), (⟨"LanternBoatsModel", "canTalk", "(I)Z"⟩, 14), (⟨"LanternBoatsModel", "ofBoat", "(II)I"⟩, 14), (⟨"LanternBoatsModel", "actsSet", "(II)I"⟩, 14), (⟨"LanternBoatsModel", "actsTicks", "(I)I"⟩, 14), (⟨"LanternBoatsModel", "goesBy", "(II)I"⟩, 14), (⟨"LanternBoatsModel", "goesTick", "()V"⟩, 14), (⟨"LanternBoatsModel", "goesOn", "(I)V"⟩, 14), (⟨"LanternBoatsModel", "sails", "(I)V"⟩, 14), (⟨"LanternBoatsModel", "bright", "(II)I"⟩, 14), (⟨"LanternBoatsModel", "of", "(II)I"⟩, 14), (⟨"LanternBoatsModel", "drops", "(I)V"⟩, 14), (⟨"LanternBoatsModel", "wishes", "(I)V"⟩, 14), (⟨"LanternBoatsModel", "wished", "(I)I"⟩, 14)]
theorem lw_r3 : ∀ q ∈ lw_privs_3, lw_okq q := List.forall_mem_cons.mpr ⟨lw_p32, List.forall_mem_cons.mpr ⟨lw_p33, List.forall_mem_cons.mpr ⟨lw_p34, List.forall_mem_cons.mpr ⟨lw_p35, List.forall_mem_cons.mpr ⟨lw_p36, List.forall_mem_cons.mpr ⟨lw_p37, List.forall_mem_cons.mpr ⟨lw_p38, List.forall_mem_cons.mpr ⟨lw_p39, List.forall_mem_cons.mpr ⟨lw_p40, List.forall_mem_cons.mpr ⟨lw_p41, List.forall_mem_cons.mpr ⟨lw_p42, List.forall_mem_cons.mpr ⟨lw_p43, List.forall_mem_cons.mpr ⟨lw_p44, List.forall_mem_cons.mpr ⟨lw_p45, List.forall_mem_cons.mpr ⟨lw_p46, List.forall_mem_cons.mpr ⟨lw_p47, fun _ h => absurd h List.not_mem_nil⟩⟩⟩⟩⟩⟩⟩⟩⟩⟩⟩⟩⟩⟩⟩⟩
theorem lw_p48 : lw_okq (⟨"LanternBoatsModel", "worth", "(II)I"⟩, 14) := ⟨⟨by decide +kernel, by decide +kernel⟩, List.mem_of_getElem? (i := 948) (by decide +kernel), List.mem_of_getElem? (i := 1144) (by decide +kernel), List.mem_of_getElem? (i := 1145) (by decide +kernel)⟩
theorem lw_p49 : lw_okq (⟨"LanternBoatsModel", "serves", "(I)I"⟩, 14) := ⟨⟨by decide +kernel, by decide +kernel⟩, List.mem_of_getElem? (i := 948) (by decide +kernel), List.mem_of_getElem? (i := 1148) (by decide +kernel), List.mem_of_getElem? (i := 1149) (by decide +kernel)⟩
theorem lw_p50 : lw_okq (⟨"LanternBoatsModel", "hands", "(II)V"⟩, 14) := ⟨⟨by decide +kernel, by decide +kernel⟩, List.mem_of_getElem? (i := 948) (by decide +kernel), List.mem_of_getElem? (i := 1152) (by decide +kernel), List.mem_of_getElem? (i := 1153) (by decide +kernel)⟩
theorem lw_p51 : lw_okq (⟨"LanternBoatsModel", "finds", "(I)V"⟩, 14) := ⟨⟨by decide +kernel, by decide +kernel⟩, List.mem_of_getElem? (i := 948) (by decide +kernel), List.mem_of_getElem? (i := 1156) (by decide +kernel), List.mem_of_getElem? (i := 1157) (by decide +kernel)⟩
theorem lw_p52 : lw_okq (⟨"LanternBoatsModel", "tellsAbout", "(I)I"⟩, 14) := ⟨⟨by decide +kernel, by decide +kernel⟩, List.mem_of_getElem? (i := 948) (by decide +kernel), List.mem_of_getElem? (i := 1168) (by decide +kernel), List.mem_of_getElem? (i := 1169) (by decide +kernel)⟩
theorem lw_p53 : lw_okq (⟨"LanternBoatsModel", "boatsThat", "(I)I"⟩, 14) := ⟨⟨by decide +kernel, by decide +kernel⟩, List.mem_of_getElem? (i := 948) (by decide +kernel), List.mem_of_getElem? (i := 1172) (by decide +kernel), List.mem_of_getElem? (i := 1173) (by decide +kernel)⟩
theorem lw_p54 : lw_okq (⟨"LanternBoatsModel", "isLight", "(I)Z"⟩, 14) := ⟨⟨by decide +kernel, by decide +kernel⟩, List.mem_of_getElem? (i := 948) (by decide +kernel), List.mem_of_getElem? (i := 1180) (by decide +kernel), List.mem_of_getElem? (i := 1181) (by decide +kernel)⟩
theorem lw_p55 : lw_okq (⟨"LanternBoatsModel", "servedBy", "(I)I"⟩, 14) := ⟨⟨by decide +kernel, by decide +kernel⟩, List.mem_of_getElem? (i := 948) (by decide +kernel), List.mem_of_getElem? (i := 1184) (by decide +kernel), List.mem_of_getElem? (i := 1185) (by decide +kernel)⟩
theorem lw_p56 : lw_okq (⟨"LanternBoatsModel", "best", "(I)I"⟩, 14) := ⟨⟨by decide +kernel, by decide +kernel⟩, List.mem_of_getElem? (i := 948) (by decide +kernel), List.mem_of_getElem? (i := 1200) (by decide +kernel), List.mem_of_getElem? (i := 1201) (by decide +kernel)⟩
theorem lw_p57 : lw_okq (⟨"LanternBoatsModel", "saves", "()V"⟩, 14) := ⟨⟨by decide +kernel, by decide +kernel⟩, List.mem_of_getElem? (i := 948) (by decide +kernel), List.mem_of_getElem? (i := 1212) (by decide +kernel), List.mem_of_getElem? (i := 1213) (by decide +kernel)⟩
theorem lw_p58 : lw_okq (⟨"LanternBoatsModel", "actsLean", "(II)I"⟩, 14) := ⟨⟨by decide +kernel, by decide +kernel⟩, List.mem_of_getElem? (i := 948) (by decide +kernel), List.mem_of_getElem? (i := 1232) (by decide +kernel), List.mem_of_getElem? (i := 1233) (by decide +kernel)⟩
theorem lw_p59 : lw_okq (⟨"LanternBoatsModel", "actsDim", "(II)I"⟩, 14) := ⟨⟨by decide +kernel, by decide +kernel⟩, List.mem_of_getElem? (i := 948) (by decide +kernel), List.mem_of_getElem? (i := 1240) (by decide +kernel), List.mem_of_getElem? (i := 1241) (by decide +kernel)⟩
theorem lw_p60 : lw_okq (⟨"LanternBoatsModel", "putAside", "()V"⟩, 14) := ⟨⟨by decide +kernel, by decide +kernel⟩, List.mem_of_getElem? (i := 948) (by decide +kernel), List.mem_of_getElem? (i := 1260) (by decide +kernel), List.mem_of_getElem? (i := 1261) (by decide +kernel)⟩
theorem lw_p61 : lw_okq (⟨"LanternBoatsModel", "takeBack", "()V"⟩, 14) := ⟨⟨by decide +kernel, by decide +kernel⟩, List.mem_of_getElem? (i := 948) (by decide +kernel), List.mem_of_getElem? (i := 1264) (by decide +kernel), List.mem_of_getElem? (i := 1265) (by decide +kernel)⟩
theorem lw_p62 : lw_okq (⟨"LanternBoatsModel", "bringsBy", "(III)I"⟩, 14) := ⟨⟨by decide +kernel, by decide +kernel⟩, List.mem_of_getElem? (i := 948) (by decide +kernel), List.mem_of_getElem? (i := 1272) (by decide +kernel), List.mem_of_getElem? (i := 1273) (by decide +kernel)⟩
theorem lw_p63 : lw_okq (⟨"LanternBoatsModel", "laysFigures", "(J)V"⟩, 14) := ⟨⟨by decide +kernel, by decide +kernel⟩, List.mem_of_getElem? (i := 948) (by decide +kernel), List.mem_of_getElem? (i := 1297) (by decide +kernel), List.mem_of_getElem? (i := 1298) (by decide +kernel)⟩
def lw_privs_4 : List (MethodName × Nat) := [(⟨"LanternBoatsModel", "worth", "(II)I"⟩, 14), (⟨"LanternBoatsModel", "serves", "(I)I"⟩, 14), (⟨"LanternBoatsModel", "hands", "(II)V"⟩, 14), (⟨"LanternBoatsModel", "finds", "(I)V"⟩, 14), (⟨"LanternBoatsModel", "tellsAbout", "(I)I"⟩, 14), (⟨"LanternBoatsModel", "boatsThat", "(I)I"⟩, 14), (⟨"LanternBoatsModel", "isLight", "(I)Z"⟩, 14), (⟨"LanternBoatsModel", "servedBy", "(I)I"⟩, 14), (⟨"LanternBoatsModel", "best", "(I)I"⟩, 14), (⟨"LanternBoatsModel", "saves", "()V"⟩, 14), (⟨"LanternBoatsModel", "actsLean", "(II)I"⟩, 14), (⟨"LanternBoatsModel", "actsDim", "(II)I"⟩, 14), (⟨"LanternBoatsModel", "putAside", "()V"⟩, 14), (⟨"LanternBoatsModel", "takeBack", "()V"⟩, 14), (⟨"LanternBoatsModel", "bringsBy", "(III)I"⟩, 14), (⟨"LanternBoatsModel", "laysFigures", "(J)V"⟩, 14)]
theorem lw_r4 : ∀ q ∈ lw_privs_4, lw_okq q := List.forall_mem_cons.mpr ⟨lw_p48, List.forall_mem_cons.mpr ⟨lw_p49, List.forall_mem_cons.mpr ⟨lw_p50, List.forall_mem_cons.mpr ⟨lw_p51, List.forall_mem_cons.mpr ⟨lw_p52, List.forall_mem_cons.mpr ⟨lw_p53, List.forall_mem_cons.mpr ⟨lw_p54, List.forall_mem_cons.mpr ⟨lw_p55, List.forall_mem_cons.mpr ⟨lw_p56, List.forall_mem_cons.mpr ⟨lw_p57, List.forall_mem_cons.mpr ⟨lw_p58, List.forall_mem_cons.mpr ⟨lw_p59, List.forall_mem_cons.mpr ⟨lw_p60, List.forall_mem_cons.mpr ⟨lw_p61, List.forall_mem_cons.mpr ⟨lw_p62, List.forall_mem_cons.mpr ⟨lw_p63, fun _ h => absurd h List.not_mem_nil⟩⟩⟩⟩⟩⟩⟩⟩⟩⟩⟩⟩⟩⟩⟩⟩
theorem lw_p64 : lw_okq (⟨"LanternBoatsModel", "succeeds", "()Z"⟩, 14) := ⟨⟨by decide +kernel, by decide +kernel⟩, List.mem_of_getElem? (i := 948) (by decide +kernel), List.mem_of_getElem? (i := 1302) (by decide +kernel), List.mem_of_getElem? (i := 1303) (by decide +kernel)⟩
theorem lw_p65 : lw_okq (⟨"LanternBoatsModel", "pair", "(I)I"⟩, 14) := ⟨⟨by decide +kernel, by decide +kernel⟩, List.mem_of_getElem? (i := 948) (by decide +kernel), List.mem_of_getElem? (i := 1306) (by decide +kernel), List.mem_of_getElem? (i := 1307) (by decide +kernel)⟩
theorem lw_p66 : lw_okq (⟨"LanternBoatsModel", "turns", "(I)V"⟩, 14) := ⟨⟨by decide +kernel, by decide +kernel⟩, List.mem_of_getElem? (i := 948) (by decide +kernel), List.mem_of_getElem? (i := 1316) (by decide +kernel), List.mem_of_getElem? (i := 1317) (by decide +kernel)⟩
def lw_privs_5 : List (MethodName × Nat) := [(⟨"LanternBoatsModel", "succeeds", "()Z"⟩, 14), (⟨"LanternBoatsModel", "pair", "(I)I"⟩, 14), (⟨"LanternBoatsModel", "turns", "(I)V"⟩, 14)]
theorem lw_r5 : ∀ q ∈ lw_privs_5, lw_okq q := List.forall_mem_cons.mpr ⟨lw_p64, List.forall_mem_cons.mpr ⟨lw_p65, List.forall_mem_cons.mpr ⟨lw_p66, fun _ h => absurd h List.not_mem_nil⟩⟩⟩
def lw_privs : List (MethodName × Nat) := lw_privs_1 ++ (lw_privs_2 ++ (lw_privs_3 ++ (lw_privs_4 ++ (lw_privs_5))))
def lw_tbl : List Cond := k2_sels lw_privs ++ tables_1
theorem lw_privs_ok : ∀ q ∈ lw_privs, lw_okq q := by
  show ∀ q ∈ lw_privs_1 ++ (lw_privs_2 ++ (lw_privs_3 ++ (lw_privs_4 ++ (lw_privs_5)))), lw_okq q
  exact List.forall_mem_append.mpr ⟨lw_r1, List.forall_mem_append.mpr ⟨lw_r2, List.forall_mem_append.mpr ⟨lw_r3, List.forall_mem_append.mpr ⟨lw_r4, lw_r5⟩⟩⟩⟩
def RX0 : String := "LanternBoats$Boat"
def TX0 : u_T := fun k => match k with
  | 0 => ("LanternBoats$Boat", "bit", "I", true)
  | 1 => ("LanternBoats$Boat", "place", "I", false)
  | 2 => ("LanternBoats$Boat", "speed", "I", false)
  | 3 => ("LanternBoats$Boat", "keeper", "I", false)
  | 4 => ("LanternBoats$Boat", "talkLeft", "I", false)
  | 5 => ("LanternBoats$Boat", "wish", "I", false)
  | 6 => ("LanternBoats$Boat", "wishTicks", "I", false)
  | 7 => ("LanternBoats$Boat", "leftLast", "I", false)
  | 8 => ("LanternBoats$Boat", "leftTime", "I", false)
  | 9 => ("LanternBoats$Boat", "handed", "I", false)
  | _ => ("LanternBoats$Boat", "back", "I", false)
def tyX0 : Nat → FieldType := fun k => match k with
  | 0 => .int
  | 1 => .int
  | 2 => .int
  | 3 => .int
  | 4 => .int
  | 5 => .int
  | 6 => .int
  | 7 => .int
  | 8 => .int
  | 9 => .int
  | _ => .int
abbrev wsX00 : List Cond := u_ws RX0 TX0 11
theorem nmX0 : ∀ a, a < 11 → ∀ b, b < 11 → a ≠ b → (TX0 a).2.1 ≠ (TX0 b).2.1 := by decide +kernel
theorem tyX0_ok : ∀ k, k < 11 → parseFieldDescriptor (TX0 k).2.2.1 = some (tyX0 k) := by decide +kernel
abbrev cX0_init : ByteArray := prog_2_method_1_code
def yX0_init : MethodName := ⟨RX0, "<init>", "(I)V"⟩
abbrev cX0_begin : ByteArray := prog_2_method_2_code
def yX0_begin : MethodName := ⟨RX0, "begin", "(II)V"⟩
abbrev cX0_copyFrom : ByteArray := prog_2_method_3_code
def yX0_copyFrom : MethodName := ⟨RX0, "copyFrom", "(LLanternBoats$Boat;)V"⟩
abbrev cX0_numberOf : ByteArray := prog_2_method_4_code
def yX0_numberOf : MethodName := ⟨RX0, "numberOf", "(I)I"⟩
abbrev cX0_move : ByteArray := prog_2_method_5_code
def yX0_move : MethodName := ⟨RX0, "move", "()V"⟩
abbrev cX0_wishFor : ByteArray := prog_2_method_6_code
def yX0_wishFor : MethodName := ⟨RX0, "wishFor", "(I)V"⟩
def RX1 : String := "LanternBoats$Coast"
def TX1 : u_T := fun k => match k with
  | 0 => ("LanternBoats$Coast", "lights", "[LLanternBoats$Light;", true)
  | 1 => ("LanternBoats$Coast", "boats", "[LLanternBoats$Boat;", true)
  | 2 => ("LanternBoats$Coast", "settings", "[I", true)
  | 3 => ("LanternBoats$Coast", "lightCount", "I", false)
  | 4 => ("LanternBoats$Coast", "boatCount", "I", false)
  | 5 => ("LanternBoats$Coast", "time", "I", false)
  | 6 => ("LanternBoats$Coast", "handed", "I", false)
  | 7 => ("LanternBoats$Coast", "back", "I", false)
  | 8 => ("LanternBoats$Coast", "refused", "I", false)
  | 9 => ("LanternBoats$Coast", "lost", "I", false)
  | _ => ("LanternBoats$Coast", "taken", "I", false)
def tyX1 : Nat → FieldType := fun k => match k with
  | 0 => .array (.object "LanternBoats$Light")
  | 1 => .array (.object "LanternBoats$Boat")
  | 2 => .array .int
  | 3 => .int
  | 4 => .int
  | 5 => .int
  | 6 => .int
  | 7 => .int
  | 8 => .int
  | 9 => .int
  | _ => .int
abbrev wsX10 : List Cond := u_ws RX1 TX1 11
theorem nmX1 : ∀ a, a < 11 → ∀ b, b < 11 → a ≠ b → (TX1 a).2.1 ≠ (TX1 b).2.1 := by decide +kernel
theorem tyX1_ok : ∀ k, k < 11 → parseFieldDescriptor (TX1 k).2.2.1 = some (tyX1 k) := by decide +kernel
abbrev cX1_init : ByteArray := prog_3_method_1_code
def yX1_init : MethodName := ⟨RX1, "<init>", "()V"⟩
abbrev cX1_reset : ByteArray := prog_3_method_2_code
def yX1_reset : MethodName := ⟨RX1, "reset", "()V"⟩
abbrev cX1_copyFrom : ByteArray := prog_3_method_3_code
def yX1_copyFrom : MethodName := ⟨RX1, "copyFrom", "(LLanternBoats$Coast;)V"⟩
abbrev cX1_lightAt : ByteArray := prog_3_method_4_code
def yX1_lightAt : MethodName := ⟨RX1, "lightAt", "(I)LLanternBoats$Light;"⟩
abbrev cX1_boatAt : ByteArray := prog_3_method_5_code
def yX1_boatAt : MethodName := ⟨RX1, "boatAt", "(I)LLanternBoats$Boat;"⟩
abbrev cX1_settingOf : ByteArray := prog_3_method_6_code
def yX1_settingOf : MethodName := ⟨RX1, "settingOf", "(I)I"⟩
abbrev cX1_numberOf : ByteArray := prog_3_method_7_code
def yX1_numberOf : MethodName := ⟨RX1, "numberOf", "(I)I"⟩
abbrev cX1_servedBoats : ByteArray := prog_3_method_8_code
def yX1_servedBoats : MethodName := ⟨RX1, "servedBoats", "()I"⟩
abbrev cX1_talkingBoats : ByteArray := prog_3_method_9_code
def yX1_talkingBoats : MethodName := ⟨RX1, "talkingBoats", "()I"⟩
abbrev cX1_brightest : ByteArray := prog_3_method_10_code
def yX1_brightest : MethodName := ⟨RX1, "brightest", "(I)I"⟩
abbrev cX1_isDark : ByteArray := prog_3_method_11_code
def yX1_isDark : MethodName := ⟨RX1, "isDark", "(I)Z"⟩
abbrev cX1_freePlaces : ByteArray := prog_3_method_12_code
def yX1_freePlaces : MethodName := ⟨RX1, "freePlaces", "()I"⟩
abbrev cX1_isServing : ByteArray := prog_3_method_13_code
def yX1_isServing : MethodName := ⟨RX1, "isServing", "(II)Z"⟩
abbrev cX1_isServingAtLeast : ByteArray := prog_3_method_14_code
def yX1_isServingAtLeast : MethodName := ⟨RX1, "isServingAtLeast", "(II)Z"⟩
abbrev cX1_isBoatAt : ByteArray := prog_3_method_15_code
def yX1_isBoatAt : MethodName := ⟨RX1, "isBoatAt", "(II)Z"⟩
abbrev cX1_lightFault : ByteArray := prog_3_method_16_code
def yX1_lightFault : MethodName := ⟨RX1, "lightFault", "(IIIIII)I"⟩
abbrev cX1_boatFault : ByteArray := prog_3_method_17_code
def yX1_boatFault : MethodName := ⟨RX1, "boatFault", "(II)I"⟩
abbrev cX1_steerFault : ByteArray := prog_3_method_18_code
def yX1_steerFault : MethodName := ⟨RX1, "steerFault", "(II)I"⟩
abbrev cX1_talkFault : ByteArray := prog_3_method_19_code
def yX1_talkFault : MethodName := ⟨RX1, "talkFault", "(II)I"⟩
abbrev cX1_leanFault : ByteArray := prog_3_method_20_code
def yX1_leanFault : MethodName := ⟨RX1, "leanFault", "(II)I"⟩
abbrev cX1_dimFault : ByteArray := prog_3_method_21_code
def yX1_dimFault : MethodName := ⟨RX1, "dimFault", "(II)I"⟩
abbrev cX1_addLight : ByteArray := prog_3_method_22_code
def yX1_addLight : MethodName := ⟨RX1, "addLight", "(IIIIII)I"⟩
abbrev cX1_addBoat : ByteArray := prog_3_method_23_code
def yX1_addBoat : MethodName := ⟨RX1, "addBoat", "(II)I"⟩
abbrev cX1_putSpeed : ByteArray := prog_3_method_24_code
def yX1_putSpeed : MethodName := ⟨RX1, "putSpeed", "(II)I"⟩
abbrev cX1_putTalk : ByteArray := prog_3_method_25_code
def yX1_putTalk : MethodName := ⟨RX1, "putTalk", "(II)I"⟩
abbrev cX1_putLeaning : ByteArray := prog_3_method_26_code
def yX1_putLeaning : MethodName := ⟨RX1, "putLeaning", "(II)I"⟩
abbrev cX1_putStrength : ByteArray := prog_3_method_27_code
def yX1_putStrength : MethodName := ⟨RX1, "putStrength", "(II)I"⟩
abbrev cX1_putSetting : ByteArray := prog_3_method_28_code
def yX1_putSetting : MethodName := ⟨RX1, "putSetting", "(II)I"⟩
abbrev cX1_tryLight : ByteArray := prog_3_method_29_code
def yX1_tryLight : MethodName := ⟨RX1, "tryLight", "(IIIIII)Z"⟩
abbrev cX1_tryBoat : ByteArray := prog_3_method_30_code
def yX1_tryBoat : MethodName := ⟨RX1, "tryBoat", "(II)Z"⟩
abbrev cX1_trySteer : ByteArray := prog_3_method_31_code
def yX1_trySteer : MethodName := ⟨RX1, "trySteer", "(II)Z"⟩
abbrev cX1_tryTalk : ByteArray := prog_3_method_32_code
def yX1_tryTalk : MethodName := ⟨RX1, "tryTalk", "(II)Z"⟩
abbrev cX1_tryLean : ByteArray := prog_3_method_33_code
def yX1_tryLean : MethodName := ⟨RX1, "tryLean", "(II)Z"⟩
abbrev cX1_tryDim : ByteArray := prog_3_method_34_code
def yX1_tryDim : MethodName := ⟨RX1, "tryDim", "(II)Z"⟩
abbrev cX1_trySet : ByteArray := prog_3_method_35_code
def yX1_trySet : MethodName := ⟨RX1, "trySet", "(II)Z"⟩
abbrev cX1_pass : ByteArray := prog_3_method_36_code
def yX1_pass : MethodName := ⟨RX1, "pass", "(I)V"⟩
abbrev cX1_sail : ByteArray := prog_3_method_37_code
def yX1_sail : MethodName := ⟨RX1, "sail", "(LLanternBoats$Boat;)V"⟩
abbrev cX1_lose : ByteArray := prog_3_method_38_code
def yX1_lose : MethodName := ⟨RX1, "lose", "(LLanternBoats$Boat;)V"⟩
abbrev cX1_bestWish : ByteArray := prog_3_method_39_code
def yX1_bestWish : MethodName := ⟨RX1, "bestWish", "(LLanternBoats$Boat;LLanternBoats$Light;)I"⟩
abbrev cX1_ask : ByteArray := prog_3_method_40_code
def yX1_ask : MethodName := ⟨RX1, "ask", "(LLanternBoats$Boat;)V"⟩
abbrev cX1_seekKeeper : ByteArray := prog_3_method_41_code
def yX1_seekKeeper : MethodName := ⟨RX1, "seekKeeper", "(LLanternBoats$Boat;)V"⟩
abbrev cX1_serve : ByteArray := prog_3_method_42_code
def yX1_serve : MethodName := ⟨RX1, "serve", "(LLanternBoats$Boat;I)V"⟩
def RX2 : String := "LanternBoats$Light"
def TX2 : u_T := fun k => match k with
  | 0 => ("LanternBoats$Light", "place", "I", false)
  | 1 => ("LanternBoats$Light", "strength", "I", false)
  | 2 => ("LanternBoats$Light", "kind", "I", false)
  | 3 => ("LanternBoats$Light", "n", "I", false)
  | 4 => ("LanternBoats$Light", "most", "I", false)
  | 5 => ("LanternBoats$Light", "reserved", "I", false)
  | 6 => ("LanternBoats$Light", "leaning", "I", false)
  | 7 => ("LanternBoats$Light", "served", "I", false)
  | _ => ("LanternBoats$Light", "handedTo", "I", false)
def tyX2 : Nat → FieldType := fun k => match k with
  | 0 => .int
  | 1 => .int
  | 2 => .int
  | 3 => .int
  | 4 => .int
  | 5 => .int
  | 6 => .int
  | 7 => .int
  | _ => .int
abbrev wsX20 : List Cond := u_ws RX2 TX2 9
theorem nmX2 : ∀ a, a < 9 → ∀ b, b < 9 → a ≠ b → (TX2 a).2.1 ≠ (TX2 b).2.1 := by decide +kernel
theorem tyX2_ok : ∀ k, k < 9 → parseFieldDescriptor (TX2 k).2.2.1 = some (tyX2 k) := by decide +kernel
abbrev cX2_init : ByteArray := prog_4_method_1_code
def yX2_init : MethodName := ⟨RX2, "<init>", "()V"⟩
abbrev cX2_begin : ByteArray := prog_4_method_2_code
def yX2_begin : MethodName := ⟨RX2, "begin", "(IIIIII)V"⟩
abbrev cX2_copyFrom : ByteArray := prog_4_method_3_code
def yX2_copyFrom : MethodName := ⟨RX2, "copyFrom", "(LLanternBoats$Light;)V"⟩
abbrev cX2_numberOf : ByteArray := prog_4_method_4_code
def yX2_numberOf : MethodName := ⟨RX2, "numberOf", "(I)I"⟩
abbrev cX2_brightnessAt : ByteArray := prog_4_method_5_code
def yX2_brightnessAt : MethodName := ⟨RX2, "brightnessAt", "(II)I"⟩
abbrev cX2_worthAt : ByteArray := prog_4_method_6_code
def yX2_worthAt : MethodName := ⟨RX2, "worthAt", "(II)I"⟩
abbrev cX2_servedCount : ByteArray := prog_4_method_7_code
def yX2_servedCount : MethodName := ⟨RX2, "servedCount", "()I"⟩
abbrev cX2_takesHandedOn : ByteArray := prog_4_method_8_code
def yX2_takesHandedOn : MethodName := ⟨RX2, "takesHandedOn", "()Z"⟩
abbrev cX2_takesOthers : ByteArray := prog_4_method_9_code
def yX2_takesOthers : MethodName := ⟨RX2, "takesOthers", "()Z"⟩
def RX3 : String := "LanternBoats$Memory"
def TX3 : u_T := fun k => match k with
  | 0 => ("LanternBoats$Memory", "states", "[LLanternBoats$Coast;", true)
  | 1 => ("LanternBoats$Memory", "slots", "[LLanternBoats$Coast;", true)
  | 2 => ("LanternBoats$Memory", "first", "I", false)
  | 3 => ("LanternBoats$Memory", "count", "I", false)
  | _ => ("LanternBoats$Memory", "keptSlots", "I", false)
def tyX3 : Nat → FieldType := fun k => match k with
  | 0 => .array (.object "LanternBoats$Coast")
  | 1 => .array (.object "LanternBoats$Coast")
  | 2 => .int
  | 3 => .int
  | _ => .int
abbrev wsX30 : List Cond := u_ws RX3 TX3 5
theorem nmX3 : ∀ a, a < 5 → ∀ b, b < 5 → a ≠ b → (TX3 a).2.1 ≠ (TX3 b).2.1 := by decide +kernel
theorem tyX3_ok : ∀ k, k < 5 → parseFieldDescriptor (TX3 k).2.2.1 = some (tyX3 k) := by decide +kernel
abbrev cX3_init : ByteArray := prog_5_method_1_code
def yX3_init : MethodName := ⟨RX3, "<init>", "()V"⟩
abbrev cX3_reset : ByteArray := prog_5_method_2_code
def yX3_reset : MethodName := ⟨RX3, "reset", "()V"⟩
abbrev cX3_hasStates : ByteArray := prog_5_method_3_code
def yX3_hasStates : MethodName := ⟨RX3, "hasStates", "()Z"⟩
abbrev cX3_remember : ByteArray := prog_5_method_4_code
def yX3_remember : MethodName := ⟨RX3, "remember", "(LLanternBoats$Coast;)V"⟩
abbrev cX3_takeBack : ByteArray := prog_5_method_5_code
def yX3_takeBack : MethodName := ⟨RX3, "takeBack", "(LLanternBoats$Coast;)I"⟩
abbrev cX3_stateAt : ByteArray := prog_5_method_6_code
def yX3_stateAt : MethodName := ⟨RX3, "stateAt", "(I)LLanternBoats$Coast;"⟩
abbrev cX3_isSlot : ByteArray := prog_5_method_7_code
def yX3_isSlot : MethodName := ⟨RX3, "isSlot", "(I)Z"⟩
abbrev cX3_isKept : ByteArray := prog_5_method_8_code
def yX3_isKept : MethodName := ⟨RX3, "isKept", "(I)Z"⟩
abbrev cX3_keep : ByteArray := prog_5_method_9_code
def yX3_keep : MethodName := ⟨RX3, "keep", "(ILLanternBoats$Coast;)V"⟩
abbrev cX3_bring : ByteArray := prog_5_method_10_code
def yX3_bring : MethodName := ⟨RX3, "bring", "(ILLanternBoats$Coast;)V"⟩
abbrev cX3_slotAt : ByteArray := prog_5_method_11_code
def yX3_slotAt : MethodName := ⟨RX3, "slotAt", "(I)LLanternBoats$Coast;"⟩
def RX4 : String := "LanternBoats$Text"
def TX4 : u_T := fun k => match k with
  | 0 => ("LanternBoats$Text", "signs", "[C", true)
  | 1 => ("LanternBoats$Text", "numbers", "[I", true)
  | 2 => ("LanternBoats$Text", "length", "I", false)
  | 3 => ("LanternBoats$Text", "at", "I", false)
  | _ => ("LanternBoats$Text", "letter", "I", false)
def tyX4 : Nat → FieldType := fun k => match k with
  | 0 => .array .char
  | 1 => .array .int
  | 2 => .int
  | 3 => .int
  | _ => .int
abbrev wsX40 : List Cond := u_ws RX4 TX4 5
theorem nmX4 : ∀ a, a < 5 → ∀ b, b < 5 → a ≠ b → (TX4 a).2.1 ≠ (TX4 b).2.1 := by decide +kernel
theorem tyX4_ok : ∀ k, k < 5 → parseFieldDescriptor (TX4 k).2.2.1 = some (tyX4 k) := by decide +kernel
abbrev cX4_init : ByteArray := prog_6_method_1_code
def yX4_init : MethodName := ⟨RX4, "<init>", "()V"⟩
abbrev cX4_isFull : ByteArray := prog_6_method_2_code
def yX4_isFull : MethodName := ⟨RX4, "isFull", "()Z"⟩
abbrev cX4_add : ByteArray := prog_6_method_3_code
def yX4_add : MethodName := ⟨RX4, "add", "(I)I"⟩
abbrev cX4_empty : ByteArray := prog_6_method_4_code
def yX4_empty : MethodName := ⟨RX4, "empty", "()I"⟩
abbrev cX4_errorPlace : ByteArray := prog_6_method_5_code
def yX4_errorPlace : MethodName := ⟨RX4, "errorPlace", "()I"⟩
abbrev cX4_readHead : ByteArray := prog_6_method_6_code
def yX4_readHead : MethodName := ⟨RX4, "readHead", "()Z"⟩
abbrev cX4_hasMore : ByteArray := prog_6_method_7_code
def yX4_hasMore : MethodName := ⟨RX4, "hasMore", "()Z"⟩
abbrev cX4_readCommand : ByteArray := prog_6_method_8_code
def yX4_readCommand : MethodName := ⟨RX4, "readCommand", "()Z"⟩
abbrev cX4_number : ByteArray := prog_6_method_9_code
def yX4_number : MethodName := ⟨RX4, "number", "(I)I"⟩
abbrev cX4_signAt : ByteArray := prog_6_method_10_code
def yX4_signAt : MethodName := ⟨RX4, "signAt", "(I)I"⟩
abbrev cX4_formOf : ByteArray := prog_6_method_11_code
def yX4_formOf : MethodName := ⟨RX4, "formOf", "(I)[I"⟩
abbrev cX4_readNumber : ByteArray := prog_6_method_12_code
def yX4_readNumber : MethodName := ⟨RX4, "readNumber", "(III)I"⟩
def RX5 : String := "LanternBoats"
def TX5 : u_T := fun k => match k with
  | 0 => ("LanternBoats", "text", "LLanternBoats$Text;", true)
  | 1 => ("LanternBoats", "coast", "LLanternBoats$Coast;", true)
  | 2 => ("LanternBoats", "trial", "LLanternBoats$Coast;", true)
  | _ => ("LanternBoats", "memory", "LLanternBoats$Memory;", true)
def tyX5 : Nat → FieldType := fun k => match k with
  | 0 => .object "LanternBoats$Text"
  | 1 => .object "LanternBoats$Coast"
  | 2 => .object "LanternBoats$Coast"
  | _ => .object "LanternBoats$Memory"
abbrev wsX50 : List Cond := u_ws RX5 TX5 4
theorem nmX5 : ∀ a, a < 4 → ∀ b, b < 4 → a ≠ b → (TX5 a).2.1 ≠ (TX5 b).2.1 := by decide +kernel
theorem tyX5_ok : ∀ k, k < 4 → parseFieldDescriptor (TX5 k).2.2.1 = some (tyX5 k) := by decide +kernel
abbrev cX5_init : ByteArray := prog_1_method_1_code
def yX5_init : MethodName := ⟨RX5, "<init>", "()V"⟩
abbrev cX5_append : ByteArray := prog_1_method_2_code
def yX5_append : MethodName := ⟨RX5, "append", "(I)I"⟩
abbrev cX5_clearText : ByteArray := prog_1_method_3_code
def yX5_clearText : MethodName := ⟨RX5, "clearText", "()I"⟩
abbrev cX5_errorPosition : ByteArray := prog_1_method_4_code
def yX5_errorPosition : MethodName := ⟨RX5, "errorPosition", "()I"⟩
abbrev cX5_load : ByteArray := prog_1_method_5_code
def yX5_load : MethodName := ⟨RX5, "load", "()I"⟩
abbrev cX5_obeyCommand : ByteArray := prog_1_method_6_code
def yX5_obeyCommand : MethodName := ⟨RX5, "obeyCommand", "()Z"⟩
abbrev cX5_about : ByteArray := prog_1_method_7_code
def yX5_about : MethodName := ⟨RX5, "about", "(I)I"⟩
abbrev cX5_lightOf : ByteArray := prog_1_method_8_code
def yX5_lightOf : MethodName := ⟨RX5, "lightOf", "(II)I"⟩
abbrev cX5_boatOf : ByteArray := prog_1_method_9_code
def yX5_boatOf : MethodName := ⟨RX5, "boatOf", "(II)I"⟩
abbrev cX5_brightness : ByteArray := prog_1_method_10_code
def yX5_brightness : MethodName := ⟨RX5, "brightness", "(II)I"⟩
abbrev cX5_bestAt : ByteArray := prog_1_method_11_code
def yX5_bestAt : MethodName := ⟨RX5, "bestAt", "(II)I"⟩
abbrev cX5_setting : ByteArray := prog_1_method_12_code
def yX5_setting : MethodName := ⟨RX5, "setting", "(I)I"⟩
abbrev cX5_light : ByteArray := prog_1_method_13_code
def yX5_light : MethodName := ⟨RX5, "light", "(IIIIII)I"⟩
abbrev cX5_boat : ByteArray := prog_1_method_14_code
def yX5_boat : MethodName := ⟨RX5, "boat", "(II)I"⟩
abbrev cX5_steer : ByteArray := prog_1_method_15_code
def yX5_steer : MethodName := ⟨RX5, "steer", "(II)I"⟩
abbrev cX5_talk : ByteArray := prog_1_method_16_code
def yX5_talk : MethodName := ⟨RX5, "talk", "(II)I"⟩
abbrev cX5_lean : ByteArray := prog_1_method_17_code
def yX5_lean : MethodName := ⟨RX5, "lean", "(II)I"⟩
abbrev cX5_dim : ByteArray := prog_1_method_18_code
def yX5_dim : MethodName := ⟨RX5, "dim", "(II)I"⟩
abbrev cX5_set : ByteArray := prog_1_method_19_code
def yX5_set : MethodName := ⟨RX5, "set", "(II)I"⟩
abbrev cX5_ticks : ByteArray := prog_1_method_20_code
def yX5_ticks : MethodName := ⟨RX5, "ticks", "(I)I"⟩
abbrev cX5_undo : ByteArray := prog_1_method_21_code
def yX5_undo : MethodName := ⟨RX5, "undo", "()I"⟩
abbrev cX5_handedIn : ByteArray := prog_1_method_22_code
def yX5_handedIn : MethodName := ⟨RX5, "handedIn", "(II)I"⟩
abbrev cX5_ticksUntilHanded : ByteArray := prog_1_method_23_code
def yX5_ticksUntilHanded : MethodName := ⟨RX5, "ticksUntilHanded", "(II)I"⟩
abbrev cX5_ifMargin : ByteArray := prog_1_method_24_code
def yX5_ifMargin : MethodName := ⟨RX5, "ifMargin", "(III)I"⟩
abbrev cX5_tryMargin : ByteArray := prog_1_method_25_code
def yX5_tryMargin : MethodName := ⟨RX5, "tryMargin", "(II)V"⟩
abbrev cX5_gained : ByteArray := prog_1_method_26_code
def yX5_gained : MethodName := ⟨RX5, "gained", "(I)I"⟩
abbrev cX5_bestMargin : ByteArray := prog_1_method_27_code
def yX5_bestMargin : MethodName := ⟨RX5, "bestMargin", "(I)I"⟩
abbrev cX5_dark : ByteArray := prog_1_method_28_code
def yX5_dark : MethodName := ⟨RX5, "dark", "()I"⟩
abbrev cX5_border : ByteArray := prog_1_method_29_code
def yX5_border : MethodName := ⟨RX5, "border", "(I)I"⟩
abbrev cX5_room : ByteArray := prog_1_method_30_code
def yX5_room : MethodName := ⟨RX5, "room", "()I"⟩
abbrev cX5_runScript : ByteArray := prog_1_method_31_code
def yX5_runScript : MethodName := ⟨RX5, "runScript", "(IJ)I"⟩
abbrev cX5_withoutGroups : ByteArray := prog_1_method_32_code
def yX5_withoutGroups : MethodName := ⟨RX5, "withoutGroups", "(JI)J"⟩
abbrev cX5_runCommand : ByteArray := prog_1_method_33_code
def yX5_runCommand : MethodName := ⟨RX5, "runCommand", "(I)Z"⟩
abbrev cX5_simulate : ByteArray := prog_1_method_34_code
def yX5_simulate : MethodName := ⟨RX5, "simulate", "(JI)I"⟩
abbrev cX5_takeTurn : ByteArray := prog_1_method_35_code
def yX5_takeTurn : MethodName := ⟨RX5, "takeTurn", "(I)V"⟩
abbrev cX5_shown : ByteArray := prog_1_method_36_code
def yX5_shown : MethodName := ⟨RX5, "shown", "(I)I"⟩
abbrev cX5_save : ByteArray := prog_1_method_37_code
def yX5_save : MethodName := ⟨RX5, "save", "(I)I"⟩
abbrev cX5_restore : ByteArray := prog_1_method_38_code
def yX5_restore : MethodName := ⟨RX5, "restore", "(I)I"⟩
abbrev cX5_throwFault : ByteArray := prog_1_method_39_code
def yX5_throwFault : MethodName := ⟨RX5, "throwFault", "(I)V"⟩
abbrev cX5_isPlace : ByteArray := prog_1_method_40_code
def yX5_isPlace : MethodName := ⟨RX5, "isPlace", "(I)Z"⟩
abbrev cX5_isSpeed : ByteArray := prog_1_method_41_code
def yX5_isSpeed : MethodName := ⟨RX5, "isSpeed", "(I)Z"⟩
abbrev cX5_isStrength : ByteArray := prog_1_method_42_code
def yX5_isStrength : MethodName := ⟨RX5, "isStrength", "(I)Z"⟩
abbrev cX5_isTickCount : ByteArray := prog_1_method_43_code
def yX5_isTickCount : MethodName := ⟨RX5, "isTickCount", "(I)Z"⟩
abbrev cX5_isSetting : ByteArray := prog_1_method_44_code
def yX5_isSetting : MethodName := ⟨RX5, "isSetting", "(I)Z"⟩
abbrev cX5_isSettingValue : ByteArray := prog_1_method_45_code
def yX5_isSettingValue : MethodName := ⟨RX5, "isSettingValue", "(II)Z"⟩
def RX6 : String := "LanternBoatsModel"
def TX6 : u_T := fun k => match k with
  | 0 => ("LanternBoatsModel", "thrown", "I", false)
  | 1 => ("LanternBoatsModel", "s", "[I", true)
  | 2 => ("LanternBoatsModel", "aside", "[I", true)
  | 3 => ("LanternBoatsModel", "saved", "[I", true)
  | 4 => ("LanternBoatsModel", "savedMany", "I", false)
  | 5 => ("LanternBoatsModel", "slots", "[I", true)
  | 6 => ("LanternBoatsModel", "hasSlot", "[Z", true)
  | 7 => ("LanternBoatsModel", "text", "[I", true)
  | 8 => ("LanternBoatsModel", "length", "I", false)
  | 9 => ("LanternBoatsModel", "at", "I", false)
  | 10 => ("LanternBoatsModel", "isWell", "Z", false)
  | 11 => ("LanternBoatsModel", "isDone", "Z", false)
  | 12 => ("LanternBoatsModel", "leftOut", "I", false)
  | _ => ("LanternBoatsModel", "figures", "[I", true)
def tyX6 : Nat → FieldType := fun k => match k with
  | 0 => .int
  | 1 => .array .int
  | 2 => .array .int
  | 3 => .array .int
  | 4 => .int
  | 5 => .array .int
  | 6 => .array .boolean
  | 7 => .array .int
  | 8 => .int
  | 9 => .int
  | 10 => .boolean
  | 11 => .boolean
  | 12 => .int
  | _ => .array .int
abbrev wsX60 : List Cond := u_ws RX6 TX6 14
theorem nmX6 : ∀ a, a < 14 → ∀ b, b < 14 → a ≠ b → (TX6 a).2.1 ≠ (TX6 b).2.1 := by decide +kernel
theorem tyX6_ok : ∀ k, k < 14 → parseFieldDescriptor (TX6 k).2.2.1 = some (tyX6 k) := by decide +kernel
abbrev cX6_init : ByteArray := prog_8_method_1_code
def yX6_init : MethodName := ⟨RX6, "<init>", "()V"⟩
abbrev cX6_thrown : ByteArray := prog_8_method_2_code
def yX6_thrown : MethodName := ⟨RX6, "thrown", "()I"⟩
abbrev cX6_begins : ByteArray := prog_8_method_3_code
def yX6_begins : MethodName := ⟨RX6, "begins", "()V"⟩
abbrev cX6_in : ByteArray := prog_8_method_4_code
def yX6_in : MethodName := ⟨RX6, "in", "(III)Z"⟩
abbrev cX6_fails : ByteArray := prog_8_method_5_code
def yX6_fails : MethodName := ⟨RX6, "fails", "(I)I"⟩
abbrev cX6_of : ByteArray := prog_8_method_6_code
def yX6_of : MethodName := ⟨RX6, "of", "(II)I"⟩
abbrev cX6_ofBoat : ByteArray := prog_8_method_7_code
def yX6_ofBoat : MethodName := ⟨RX6, "ofBoat", "(II)I"⟩
abbrev cX6_layBoat : ByteArray := prog_8_method_8_code
def yX6_layBoat : MethodName := ⟨RX6, "layBoat", "(III)V"⟩
abbrev cX6_isLight : ByteArray := prog_8_method_9_code
def yX6_isLight : MethodName := ⟨RX6, "isLight", "(I)Z"⟩
abbrev cX6_isBoat : ByteArray := prog_8_method_10_code
def yX6_isBoat : MethodName := ⟨RX6, "isBoat", "(I)Z"⟩
abbrev cX6_isPlace : ByteArray := prog_8_method_11_code
def yX6_isPlace : MethodName := ⟨RX6, "isPlace", "(I)Z"⟩
abbrev cX6_saves : ByteArray := prog_8_method_12_code
def yX6_saves : MethodName := ⟨RX6, "saves", "()V"⟩
abbrev cX6_putAside : ByteArray := prog_8_method_13_code
def yX6_putAside : MethodName := ⟨RX6, "putAside", "()V"⟩
abbrev cX6_takeBack : ByteArray := prog_8_method_14_code
def yX6_takeBack : MethodName := ⟨RX6, "takeBack", "()V"⟩
abbrev cX6_bright : ByteArray := prog_8_method_15_code
def yX6_bright : MethodName := ⟨RX6, "bright", "(II)I"⟩
abbrev cX6_worth : ByteArray := prog_8_method_16_code
def yX6_worth : MethodName := ⟨RX6, "worth", "(II)I"⟩
abbrev cX6_serves : ByteArray := prog_8_method_17_code
def yX6_serves : MethodName := ⟨RX6, "serves", "(I)I"⟩
abbrev cX6_best : ByteArray := prog_8_method_18_code
def yX6_best : MethodName := ⟨RX6, "best", "(I)I"⟩
abbrev cX6_sails : ByteArray := prog_8_method_19_code
def yX6_sails : MethodName := ⟨RX6, "sails", "(I)V"⟩
abbrev cX6_drops : ByteArray := prog_8_method_20_code
def yX6_drops : MethodName := ⟨RX6, "drops", "(I)V"⟩
abbrev cX6_wished : ByteArray := prog_8_method_21_code
def yX6_wished : MethodName := ⟨RX6, "wished", "(I)I"⟩
abbrev cX6_hands : ByteArray := prog_8_method_22_code
def yX6_hands : MethodName := ⟨RX6, "hands", "(II)V"⟩
abbrev cX6_wishes : ByteArray := prog_8_method_23_code
def yX6_wishes : MethodName := ⟨RX6, "wishes", "(I)V"⟩
abbrev cX6_finds : ByteArray := prog_8_method_24_code
def yX6_finds : MethodName := ⟨RX6, "finds", "(I)V"⟩
abbrev cX6_goesOn : ByteArray := prog_8_method_25_code
def yX6_goesOn : MethodName := ⟨RX6, "goesOn", "(I)V"⟩
abbrev cX6_goesTick : ByteArray := prog_8_method_26_code
def yX6_goesTick : MethodName := ⟨RX6, "goesTick", "()V"⟩
abbrev cX6_goesBy : ByteArray := prog_8_method_27_code
def yX6_goesBy : MethodName := ⟨RX6, "goesBy", "(II)I"⟩
abbrev cX6_isLamp : ByteArray := prog_8_method_28_code
def yX6_isLamp : MethodName := ⟨RX6, "isLamp", "(IIIII)Z"⟩
abbrev cX6_addsLight : ByteArray := prog_8_method_29_code
def yX6_addsLight : MethodName := ⟨RX6, "addsLight", "(IIIIII)I"⟩
abbrev cX6_actsLight : ByteArray := prog_8_method_30_code
def yX6_actsLight : MethodName := ⟨RX6, "actsLight", "(IIIIII)I"⟩
abbrev cX6_addsBoat : ByteArray := prog_8_method_31_code
def yX6_addsBoat : MethodName := ⟨RX6, "addsBoat", "(II)I"⟩
abbrev cX6_actsBoat : ByteArray := prog_8_method_32_code
def yX6_actsBoat : MethodName := ⟨RX6, "actsBoat", "(II)I"⟩
abbrev cX6_actsSteer : ByteArray := prog_8_method_33_code
def yX6_actsSteer : MethodName := ⟨RX6, "actsSteer", "(II)I"⟩
abbrev cX6_canTalk : ByteArray := prog_8_method_34_code
def yX6_canTalk : MethodName := ⟨RX6, "canTalk", "(I)Z"⟩
abbrev cX6_actsTalk : ByteArray := prog_8_method_35_code
def yX6_actsTalk : MethodName := ⟨RX6, "actsTalk", "(II)I"⟩
abbrev cX6_actsLean : ByteArray := prog_8_method_36_code
def yX6_actsLean : MethodName := ⟨RX6, "actsLean", "(II)I"⟩
abbrev cX6_actsDim : ByteArray := prog_8_method_37_code
def yX6_actsDim : MethodName := ⟨RX6, "actsDim", "(II)I"⟩
abbrev cX6_mostOf : ByteArray := prog_8_method_38_code
def yX6_mostOf : MethodName := ⟨RX6, "mostOf", "(I)I"⟩
abbrev cX6_isSetting : ByteArray := prog_8_method_39_code
def yX6_isSetting : MethodName := ⟨RX6, "isSetting", "(II)Z"⟩
abbrev cX6_actsSet : ByteArray := prog_8_method_40_code
def yX6_actsSet : MethodName := ⟨RX6, "actsSet", "(II)I"⟩
abbrev cX6_actsTicks : ByteArray := prog_8_method_41_code
def yX6_actsTicks : MethodName := ⟨RX6, "actsTicks", "(I)I"⟩
abbrev cX6_append : ByteArray := prog_8_method_42_code
def yX6_append : MethodName := ⟨RX6, "append", "(I)I"⟩
abbrev cX6_clearText : ByteArray := prog_8_method_43_code
def yX6_clearText : MethodName := ⟨RX6, "clearText", "()I"⟩
abbrev cX6_sign : ByteArray := prog_8_method_44_code
def yX6_sign : MethodName := ⟨RX6, "sign", "()I"⟩
abbrev cX6_number : ByteArray := prog_8_method_45_code
def yX6_number : MethodName := ⟨RX6, "number", "(III)I"⟩
abbrev cX6_carriesLight : ByteArray := prog_8_method_46_code
def yX6_carriesLight : MethodName := ⟨RX6, "carriesLight", "()I"⟩
abbrev cX6_carries : ByteArray := prog_8_method_47_code
def yX6_carries : MethodName := ⟨RX6, "carries", "(I)I"⟩
abbrev cX6_isCommand : ByteArray := prog_8_method_48_code
def yX6_isCommand : MethodName := ⟨RX6, "isCommand", "(I)Z"⟩
abbrev cX6_readsAll : ByteArray := prog_8_method_49_code
def yX6_readsAll : MethodName := ⟨RX6, "readsAll", "(Z)V"⟩
abbrev cX6_errorPosition : ByteArray := prog_8_method_50_code
def yX6_errorPosition : MethodName := ⟨RX6, "errorPosition", "()I"⟩
abbrev cX6_load : ByteArray := prog_8_method_51_code
def yX6_load : MethodName := ⟨RX6, "load", "()I"⟩
abbrev cX6_boatsThat : ByteArray := prog_8_method_52_code
def yX6_boatsThat : MethodName := ⟨RX6, "boatsThat", "(I)I"⟩
abbrev cX6_tellsAbout : ByteArray := prog_8_method_53_code
def yX6_tellsAbout : MethodName := ⟨RX6, "tellsAbout", "(I)I"⟩
abbrev cX6_about : ByteArray := prog_8_method_54_code
def yX6_about : MethodName := ⟨RX6, "about", "(I)I"⟩
abbrev cX6_servedBy : ByteArray := prog_8_method_55_code
def yX6_servedBy : MethodName := ⟨RX6, "servedBy", "(I)I"⟩
abbrev cX6_lightOf : ByteArray := prog_8_method_56_code
def yX6_lightOf : MethodName := ⟨RX6, "lightOf", "(II)I"⟩
abbrev cX6_boatOf : ByteArray := prog_8_method_57_code
def yX6_boatOf : MethodName := ⟨RX6, "boatOf", "(II)I"⟩
abbrev cX6_brightness : ByteArray := prog_8_method_58_code
def yX6_brightness : MethodName := ⟨RX6, "brightness", "(II)I"⟩
abbrev cX6_bestAt : ByteArray := prog_8_method_59_code
def yX6_bestAt : MethodName := ⟨RX6, "bestAt", "(II)I"⟩
abbrev cX6_setting : ByteArray := prog_8_method_60_code
def yX6_setting : MethodName := ⟨RX6, "setting", "(I)I"⟩
abbrev cX6_light : ByteArray := prog_8_method_61_code
def yX6_light : MethodName := ⟨RX6, "light", "(IIIIII)I"⟩
abbrev cX6_boat : ByteArray := prog_8_method_62_code
def yX6_boat : MethodName := ⟨RX6, "boat", "(II)I"⟩
abbrev cX6_steer : ByteArray := prog_8_method_63_code
def yX6_steer : MethodName := ⟨RX6, "steer", "(II)I"⟩
abbrev cX6_talk : ByteArray := prog_8_method_64_code
def yX6_talk : MethodName := ⟨RX6, "talk", "(II)I"⟩
abbrev cX6_lean : ByteArray := prog_8_method_65_code
def yX6_lean : MethodName := ⟨RX6, "lean", "(II)I"⟩
abbrev cX6_dim : ByteArray := prog_8_method_66_code
def yX6_dim : MethodName := ⟨RX6, "dim", "(II)I"⟩
abbrev cX6_set : ByteArray := prog_8_method_67_code
def yX6_set : MethodName := ⟨RX6, "set", "(II)I"⟩
abbrev cX6_ticks : ByteArray := prog_8_method_68_code
def yX6_ticks : MethodName := ⟨RX6, "ticks", "(I)I"⟩
abbrev cX6_undo : ByteArray := prog_8_method_69_code
def yX6_undo : MethodName := ⟨RX6, "undo", "()I"⟩
abbrev cX6_handedIn : ByteArray := prog_8_method_70_code
def yX6_handedIn : MethodName := ⟨RX6, "handedIn", "(II)I"⟩
abbrev cX6_bringsBy : ByteArray := prog_8_method_71_code
def yX6_bringsBy : MethodName := ⟨RX6, "bringsBy", "(III)I"⟩
abbrev cX6_ifMargin : ByteArray := prog_8_method_72_code
def yX6_ifMargin : MethodName := ⟨RX6, "ifMargin", "(III)I"⟩
abbrev cX6_bestMargin : ByteArray := prog_8_method_73_code
def yX6_bestMargin : MethodName := ⟨RX6, "bestMargin", "(I)I"⟩
abbrev cX6_dark : ByteArray := prog_8_method_74_code
def yX6_dark : MethodName := ⟨RX6, "dark", "()I"⟩
abbrev cX6_border : ByteArray := prog_8_method_75_code
def yX6_border : MethodName := ⟨RX6, "border", "(I)I"⟩
abbrev cX6_room : ByteArray := prog_8_method_76_code
def yX6_room : MethodName := ⟨RX6, "room", "()I"⟩
abbrev cX6_pair : ByteArray := prog_8_method_77_code
def yX6_pair : MethodName := ⟨RX6, "pair", "(I)I"⟩
abbrev cX6_succeeds : ByteArray := prog_8_method_78_code
def yX6_succeeds : MethodName := ⟨RX6, "succeeds", "()Z"⟩
abbrev cX6_laysFigures : ByteArray := prog_8_method_79_code
def yX6_laysFigures : MethodName := ⟨RX6, "laysFigures", "(J)V"⟩
abbrev cX6_runScript : ByteArray := prog_8_method_80_code
def yX6_runScript : MethodName := ⟨RX6, "runScript", "(IJ)I"⟩
abbrev cX6_turns : ByteArray := prog_8_method_81_code
def yX6_turns : MethodName := ⟨RX6, "turns", "(I)V"⟩
abbrev cX6_held : ByteArray := prog_8_method_82_code
def yX6_held : MethodName := ⟨RX6, "held", "(I)I"⟩
abbrev cX6_simulate : ByteArray := prog_8_method_83_code
def yX6_simulate : MethodName := ⟨RX6, "simulate", "(JI)I"⟩
abbrev cX6_save : ByteArray := prog_8_method_84_code
def yX6_save : MethodName := ⟨RX6, "save", "(I)I"⟩
abbrev cX6_restore : ByteArray := prog_8_method_85_code
def yX6_restore : MethodName := ⟨RX6, "restore", "(I)I"⟩
def RJ6 : String := "java/lang/Integer"
def TJ6 : u_T := fun k => match k with
  | _ => ("", "", "", false)
def tyJ6 : Nat → FieldType := fun k => match k with
  | _ => .int
abbrev wsJ60 : List Cond := u_ws RJ6 TJ6 0
theorem nmJ6 : ∀ a, a < 0 → ∀ b, b < 0 → a ≠ b → (TJ6 a).2.1 ≠ (TJ6 b).2.1 := by decide +kernel
theorem tyJ6_ok : ∀ k, k < 0 → parseFieldDescriptor (TJ6 k).2.2.1 = some (tyJ6 k) := by decide +kernel
abbrev cJ6_bitCount_0f7a4 : ByteArray := prog_13_method_49_code
def yJ6_bitCount_0f7a4 : MethodName := ⟨RJ6, "bitCount", "(I)I"⟩
def RJ0 : String := "java/lang/String"
def TJ0 : u_T := fun k => match k with
  | _ => ("", "", "", false)
def tyJ0 : Nat → FieldType := fun k => match k with
  | _ => .int
abbrev wsJ00 : List Cond := u_ws RJ0 TJ0 0
theorem nmJ0 : ∀ a, a < 0 → ∀ b, b < 0 → a ≠ b → (TJ0 a).2.1 ≠ (TJ0 b).2.1 := by decide +kernel
theorem tyJ0_ok : ∀ k, k < 0 → parseFieldDescriptor (TJ0 k).2.2.1 = some (tyJ0 k) := by decide +kernel
def RL : String := "LanternBoatsLaw"
abbrev cL_append : ByteArray := method_3_code
def yL_append : MethodName := ⟨RL, "append", "(LLanternBoats;I[J)I"⟩
abbrev cL_load : ByteArray := method_4_code
def yL_load : MethodName := ⟨RL, "load", "(LLanternBoats;[J)I"⟩
abbrev cL_about : ByteArray := method_5_code
def yL_about : MethodName := ⟨RL, "about", "(LLanternBoats;I[J)I"⟩
abbrev cL_lightOf : ByteArray := method_6_code
def yL_lightOf : MethodName := ⟨RL, "lightOf", "(LLanternBoats;II[J)I"⟩
abbrev cL_boatOf : ByteArray := method_7_code
def yL_boatOf : MethodName := ⟨RL, "boatOf", "(LLanternBoats;II[J)I"⟩
abbrev cL_brightness : ByteArray := method_8_code
def yL_brightness : MethodName := ⟨RL, "brightness", "(LLanternBoats;II[J)I"⟩
abbrev cL_bestAt : ByteArray := method_9_code
def yL_bestAt : MethodName := ⟨RL, "bestAt", "(LLanternBoats;II[J)I"⟩
abbrev cL_setting : ByteArray := method_10_code
def yL_setting : MethodName := ⟨RL, "setting", "(LLanternBoats;I[J)I"⟩
abbrev cL_light : ByteArray := method_11_code
def yL_light : MethodName := ⟨RL, "light", "(LLanternBoats;IIIIII[J)I"⟩
abbrev cL_boat : ByteArray := method_12_code
def yL_boat : MethodName := ⟨RL, "boat", "(LLanternBoats;II[J)I"⟩
abbrev cL_steer : ByteArray := method_13_code
def yL_steer : MethodName := ⟨RL, "steer", "(LLanternBoats;II[J)I"⟩
abbrev cL_talk : ByteArray := method_14_code
def yL_talk : MethodName := ⟨RL, "talk", "(LLanternBoats;II[J)I"⟩
abbrev cL_lean : ByteArray := method_15_code
def yL_lean : MethodName := ⟨RL, "lean", "(LLanternBoats;II[J)I"⟩
abbrev cL_dim : ByteArray := method_16_code
def yL_dim : MethodName := ⟨RL, "dim", "(LLanternBoats;II[J)I"⟩
abbrev cL_set : ByteArray := method_17_code
def yL_set : MethodName := ⟨RL, "set", "(LLanternBoats;II[J)I"⟩
abbrev cL_ticks : ByteArray := method_18_code
def yL_ticks : MethodName := ⟨RL, "ticks", "(LLanternBoats;I[J)I"⟩
abbrev cL_undo : ByteArray := method_19_code
def yL_undo : MethodName := ⟨RL, "undo", "(LLanternBoats;[J)I"⟩
abbrev cL_handedIn : ByteArray := method_20_code
def yL_handedIn : MethodName := ⟨RL, "handedIn", "(LLanternBoats;II[J)I"⟩
abbrev cL_ifMargin : ByteArray := method_21_code
def yL_ifMargin : MethodName := ⟨RL, "ifMargin", "(LLanternBoats;III[J)I"⟩
abbrev cL_bestMargin : ByteArray := method_22_code
def yL_bestMargin : MethodName := ⟨RL, "bestMargin", "(LLanternBoats;I[J)I"⟩
abbrev cL_border : ByteArray := method_23_code
def yL_border : MethodName := ⟨RL, "border", "(LLanternBoats;I[J)I"⟩
abbrev cL_runScript : ByteArray := method_24_code
def yL_runScript : MethodName := ⟨RL, "runScript", "(LLanternBoats;IJ[J)I"⟩
abbrev cL_simulate : ByteArray := method_25_code
def yL_simulate : MethodName := ⟨RL, "simulate", "(LLanternBoats;JI[J)I"⟩
abbrev cL_save : ByteArray := method_26_code
def yL_save : MethodName := ⟨RL, "save", "(LLanternBoats;I[J)I"⟩
abbrev cL_restore : ByteArray := method_27_code
def yL_restore : MethodName := ⟨RL, "restore", "(LLanternBoats;I[J)I"⟩
abbrev cL_law : ByteArray := code
def yL_law : MethodName := ⟨RL, "law", "([I)Z"⟩