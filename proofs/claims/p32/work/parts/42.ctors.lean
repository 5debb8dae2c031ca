-- HOW cl_isPlace fI
-- HOW cl_isSpeed fI
-- HOW cl_isStrength fI
-- HOW cl_isTickCount fI
-- HOW cl_isSetting fI
-- HOW cl_isSlot fI
-- HOW cl_isSettingValue fI
-- HOW cl_shown fI
-- HOW cl_lbegin fV
-- HOW cl_lcopy fV
-- HOW cl_bcopy fV
-- HOW cl_lnum fI
-- HOW cl_bnum fI
-- HOW cl_bright fI
-- HOW cl_worth fI
-- HOW cl_bitCount fI
-- HOW cl_servedCount fI
-- HOW cl_takesHandedOn fI
-- HOW cl_takesOthers fI
-- HOW cl_bbegin fV
-- HOW cl_move fV
-- HOW cl_wishFor fV
-- HOW cl_lightR fR
-- HOW cl_lightN fR
-- HOW cl_boatR fR
-- HOW cl_boatN fR
-- HOW cl_setR fI
-- HOW cl_lightAt fR
-- HOW cl_lightAtNo fR
-- HOW cl_boatAt fR
-- HOW cl_boatAtNo fR
-- HOW cl_settingOf fI
-- HOW cl_servedBoats fI
-- HOW cl_talkingBoats fI
-- HOW cl_numberOf fI
-- HOW cl_brightest fI
-- HOW cl_isDark fI
-- HOW cl_freePlaces fI
-- HOW cl_lightFault fI
-- HOW cl_boatFault fI
-- HOW cl_steerFault fI
-- HOW cl_dimFault fI
-- HOW cl_leanFault fI
-- HOW cl_talkFault fI
-- HOW cl_putSpeed rI
-- HOW cl_putTalk rI
-- HOW cl_putLeaning rI
-- HOW cl_putStrength rI
-- HOW cl_putSetting rI
-- HOW cl_addLight rI
-- HOW cl_addBoat rI
-- HOW cl_tryLight rI
-- HOW cl_tryBoat rI
-- HOW cl_trySteer rI
-- HOW cl_tryTalk rI
-- HOW cl_tryLean rI
-- HOW cl_tryDim rI
-- HOW cl_serve rV
-- HOW cl_lose rV
-- HOW cl_bestWish fI
-- HOW cl_seekKeeper rV
-- HOW cl_ask rV
-- HOW cl_sail rV
-- HOW cl_pass rV
-- HOW cl_reset rV
-- HOW cl_copyFrom rV
-- HOW cl_stateAt fR
-- HOW cl_slotAt fR
-- HOW cl_hasStates fI
-- HOW cl_remember rV
-- HOW cl_takeBack rI
-- HOW cl_isKept fI
-- HOW cl_keep rV
-- HOW cl_bring rV
-- HOW cl_gained fI
-- HOW cl_dark fI
-- HOW cl_room fI
-- HOW cl_takeTurn rV
-- HOW cl_throwFault xV
-- HOW cf_about xI
-- HOW cf_lightOf xI
-- HOW cf_boatOf xI
-- HOW cf_bestAt xI
-- HOW cf_setting xI
-- HOW cf_light xI
-- HOW cf_boat xI
-- HOW cf_steer xI
-- HOW cf_talk xI
-- HOW cf_dim xI
-- HOW cf_set xI
-- HOW cf_ticks xI
-- HOW cf_undo xI
-- HOW cf_save xI
-- HOW cf_restore xI
-- HOW cf_simulate xI
-- HOW cf_border xI
def mtX2_init : Mt := (yX2_init, cX2_init, 1, none, 1, 20, 0, 0)
theorem kX2_init_0 : Dk mtX2_init 0 (.aload_n 0) 1 1 := ⟨by decide +kernel, rfl⟩
theorem kX2_init_1 : Dk mtX2_init 1 (.invokespecial 3) 3 4 := ⟨by decide +kernel, rfl⟩
theorem kX2_init_4 : Dk mtX2_init 4 (.return_) 1 5 := ⟨by decide +kernel, rfl⟩
theorem miX2_init : MkI mtX2_init 0 := ⟨List.mem_of_getElem? (i := 68) (by decide +kernel), by decide +kernel, by decide +kernel, ⟨by decide +kernel, by decide +kernel, by decide +kernel⟩⟩
theorem loX2 : Cond.methodLink RX2 3 Lib.objectInit ∈ lw_tbl := by decide +kernel
def mtX0_init : Mt := (yX0_init, cX0_init, 2, none, 1, 20, 0, 0)
theorem kX0_init_0 : Dk mtX0_init 0 (.aload_n 0) 1 1 := ⟨by decide +kernel, rfl⟩
theorem kX0_init_1 : Dk mtX0_init 1 (.invokespecial 3) 3 4 := ⟨by decide +kernel, rfl⟩
theorem kX0_init_4 : Dk mtX0_init 4 (.aload_n 0) 1 5 := ⟨by decide +kernel, rfl⟩
theorem kX0_init_5 : Dk mtX0_init 5 (.iconst 1) 1 6 := ⟨by decide +kernel, rfl⟩
theorem kX0_init_6 : Dk mtX0_init 6 (.iload_n 1) 1 7 := ⟨by decide +kernel, rfl⟩
theorem kX0_init_7 : Dk mtX0_init 7 (.ishl) 1 8 := ⟨by decide +kernel, rfl⟩
theorem kX0_init_8 : Dk mtX0_init 8 (.putfield 9) 3 11 := ⟨by decide +kernel, rfl⟩
theorem kX0_init_11 : Dk mtX0_init 11 (.return_) 1 12 := ⟨by decide +kernel, rfl⟩
theorem miX0_init : MkI mtX0_init 1 := ⟨List.mem_of_getElem? (i := 108) (by decide +kernel), by decide +kernel, by decide +kernel, ⟨by decide +kernel, by decide +kernel, by decide +kernel⟩⟩
theorem loX0 : Cond.methodLink RX0 3 Lib.objectInit ∈ lw_tbl := by decide +kernel
theorem lgX0_9 : Cond.fieldLink RX0 9 (gT 0 0).1 (gT 0 0).2.1 (gT 0 0).2.2.1 ∈ lw_tbl := by decide +kernel
def mtX1_init : Mt := (yX1_init, cX1_init, 2, none, 2, 41, 17, 160)
theorem kX1_init_0 : Dk mtX1_init 0 (.aload_n 0) 1 1 := ⟨by decide +kernel, rfl⟩
theorem kX1_init_1 : Dk mtX1_init 1 (.invokespecial 3) 3 4 := ⟨by decide +kernel, rfl⟩
theorem kX1_init_4 : Dk mtX1_init 4 (.aload_n 0) 1 5 := ⟨by decide +kernel, rfl⟩
theorem kX1_init_5 : Dk mtX1_init 5 (.bipush 6) 2 7 := ⟨by decide +kernel, rfl⟩
theorem kX1_init_7 : Dk mtX1_init 7 (.anewarray 9) 3 10 := ⟨by decide +kernel, rfl⟩
theorem kX1_init_10 : Dk mtX1_init 10 (.putfield 11) 3 13 := ⟨by decide +kernel, rfl⟩
theorem kX1_init_13 : Dk mtX1_init 13 (.iconst 0) 1 14 := ⟨by decide +kernel, rfl⟩
theorem kX1_init_14 : Dk mtX1_init 14 (.istore_n 1) 1 15 := ⟨by decide +kernel, rfl⟩
theorem kX1_init_15 : Dk mtX1_init 15 (.iload_n 1) 1 16 := ⟨by decide +kernel, rfl⟩
theorem kX1_init_16 : Dk mtX1_init 16 (.aload_n 0) 1 17 := ⟨by decide +kernel, rfl⟩
theorem kX1_init_17 : Dk mtX1_init 17 (.getfield 11) 3 20 := ⟨by decide +kernel, rfl⟩
theorem kX1_init_20 : Dk mtX1_init 20 (.arraylength) 1 21 := ⟨by decide +kernel, rfl⟩
theorem kX1_init_21 : Dk mtX1_init 21 (.if_icmp .ge 22) 3 24 := ⟨by decide +kernel, rfl⟩
theorem kX1_init_24 : Dk mtX1_init 24 (.aload_n 0) 1 25 := ⟨by decide +kernel, rfl⟩
theorem kX1_init_25 : Dk mtX1_init 25 (.getfield 11) 3 28 := ⟨by decide +kernel, rfl⟩
theorem kX1_init_28 : Dk mtX1_init 28 (.iload_n 1) 1 29 := ⟨by decide +kernel, rfl⟩
theorem kX1_init_29 : Dk mtX1_init 29 (.new 9) 3 32 := ⟨by decide +kernel, rfl⟩
theorem kX1_init_32 : Dk mtX1_init 32 (.dup) 1 33 := ⟨by decide +kernel, rfl⟩
theorem kX1_init_33 : Dk mtX1_init 33 (.invokespecial 17) 3 36 := ⟨by decide +kernel, rfl⟩
theorem kX1_init_36 : Dk mtX1_init 36 (.aastore) 1 37 := ⟨by decide +kernel, rfl⟩
theorem kX1_init_37 : Dk mtX1_init 37 (.iinc 1 1) 3 40 := ⟨by decide +kernel, rfl⟩
theorem kX1_init_40 : Dk mtX1_init 40 (.goto (-25)) 3 43 := ⟨by decide +kernel, rfl⟩
theorem kX1_init_43 : Dk mtX1_init 43 (.aload_n 0) 1 44 := ⟨by decide +kernel, rfl⟩
theorem kX1_init_44 : Dk mtX1_init 44 (.bipush 8) 2 46 := ⟨by decide +kernel, rfl⟩
theorem kX1_init_46 : Dk mtX1_init 46 (.anewarray 18) 3 49 := ⟨by decide +kernel, rfl⟩
theorem kX1_init_49 : Dk mtX1_init 49 (.putfield 20) 3 52 := ⟨by decide +kernel, rfl⟩
theorem kX1_init_52 : Dk mtX1_init 52 (.iconst 0) 1 53 := ⟨by decide +kernel, rfl⟩
theorem kX1_init_53 : Dk mtX1_init 53 (.istore_n 1) 1 54 := ⟨by decide +kernel, rfl⟩
theorem kX1_init_54 : Dk mtX1_init 54 (.iload_n 1) 1 55 := ⟨by decide +kernel, rfl⟩
theorem kX1_init_55 : Dk mtX1_init 55 (.aload_n 0) 1 56 := ⟨by decide +kernel, rfl⟩
theorem kX1_init_56 : Dk mtX1_init 56 (.getfield 20) 3 59 := ⟨by decide +kernel, rfl⟩
theorem kX1_init_59 : Dk mtX1_init 59 (.arraylength) 1 60 := ⟨by decide +kernel, rfl⟩
theorem kX1_init_60 : Dk mtX1_init 60 (.if_icmp .ge 23) 3 63 := ⟨by decide +kernel, rfl⟩
theorem kX1_init_63 : Dk mtX1_init 63 (.aload_n 0) 1 64 := ⟨by decide +kernel, rfl⟩
theorem kX1_init_64 : Dk mtX1_init 64 (.getfield 20) 3 67 := ⟨by decide +kernel, rfl⟩
theorem kX1_init_67 : Dk mtX1_init 67 (.iload_n 1) 1 68 := ⟨by decide +kernel, rfl⟩
theorem kX1_init_68 : Dk mtX1_init 68 (.new 18) 3 71 := ⟨by decide +kernel, rfl⟩
theorem kX1_init_71 : Dk mtX1_init 71 (.dup) 1 72 := ⟨by decide +kernel, rfl⟩
theorem kX1_init_72 : Dk mtX1_init 72 (.iload_n 1) 1 73 := ⟨by decide +kernel, rfl⟩
theorem kX1_init_73 : Dk mtX1_init 73 (.invokespecial 24) 3 76 := ⟨by decide +kernel, rfl⟩
theorem kX1_init_76 : Dk mtX1_init 76 (.aastore) 1 77 := ⟨by decide +kernel, rfl⟩
theorem kX1_init_77 : Dk mtX1_init 77 (.iinc 1 1) 3 80 := ⟨by decide +kernel, rfl⟩
theorem kX1_init_80 : Dk mtX1_init 80 (.goto (-26)) 3 83 := ⟨by decide +kernel, rfl⟩
theorem kX1_init_83 : Dk mtX1_init 83 (.aload_n 0) 1 84 := ⟨by decide +kernel, rfl⟩
theorem kX1_init_84 : Dk mtX1_init 84 (.iconst 4) 1 85 := ⟨by decide +kernel, rfl⟩
theorem kX1_init_85 : Dk mtX1_init 85 (.newarray .int) 2 87 := ⟨by decide +kernel, rfl⟩
theorem kX1_init_87 : Dk mtX1_init 87 (.putfield 27) 3 90 := ⟨by decide +kernel, rfl⟩
theorem kX1_init_90 : Dk mtX1_init 90 (.aload_n 0) 1 91 := ⟨by decide +kernel, rfl⟩
theorem kX1_init_91 : Dk mtX1_init 91 (.invokevirtual 31) 3 94 := ⟨by decide +kernel, rfl⟩
theorem kX1_init_94 : Dk mtX1_init 94 (.return_) 1 95 := ⟨by decide +kernel, rfl⟩
theorem miX1_init : MkI mtX1_init 0 := ⟨List.mem_of_getElem? (i := 61) (by decide +kernel), by decide +kernel, by decide +kernel, ⟨by decide +kernel, by decide +kernel, by decide +kernel⟩⟩
theorem loX1 : Cond.methodLink RX1 3 Lib.objectInit ∈ lw_tbl := by decide +kernel
theorem lkX1_9 : Cond.classLink RX1 9 RX2 ∈ lw_tbl := by decide +kernel
theorem lgX1_11 : Cond.fieldLink RX1 11 (gT 1 0).1 (gT 1 0).2.1 (gT 1 0).2.2.1 ∈ lw_tbl := by decide +kernel
theorem lmX1_17 : LkM RX1 17 mtX2_init := Or.inr (by decide +kernel)
theorem lkX1_18 : Cond.classLink RX1 18 RX0 ∈ lw_tbl := by decide +kernel
theorem lgX1_20 : Cond.fieldLink RX1 20 (gT 1 1).1 (gT 1 1).2.1 (gT 1 1).2.2.1 ∈ lw_tbl := by decide +kernel
theorem lmX1_24 : LkM RX1 24 mtX0_init := Or.inl (by decide +kernel)
theorem lgX1_27 : Cond.fieldLink RX1 27 (gT 1 2).1 (gT 1 2).2.1 (gT 1 2).2.2.1 ∈ lw_tbl := by decide +kernel
theorem lmX1_31 : LkM RX1 31 mtX1_reset := Or.inl (by decide +kernel)
def mtX4_init : Mt := (yX4_init, cX4_init, 1, none, 1, 20, 2, 126)
theorem kX4_init_0 : Dk mtX4_init 0 (.aload_n 0) 1 1 := ⟨by decide +kernel, rfl⟩
theorem kX4_init_1 : Dk mtX4_init 1 (.invokespecial 3) 3 4 := ⟨by decide +kernel, rfl⟩
theorem kX4_init_4 : Dk mtX4_init 4 (.aload_n 0) 1 5 := ⟨by decide +kernel, rfl⟩
theorem kX4_init_5 : Dk mtX4_init 5 (.bipush 120) 2 7 := ⟨by decide +kernel, rfl⟩
theorem kX4_init_7 : Dk mtX4_init 7 (.newarray .char) 2 9 := ⟨by decide +kernel, rfl⟩
theorem kX4_init_9 : Dk mtX4_init 9 (.putfield 11) 3 12 := ⟨by decide +kernel, rfl⟩
theorem kX4_init_12 : Dk mtX4_init 12 (.aload_n 0) 1 13 := ⟨by decide +kernel, rfl⟩
theorem kX4_init_13 : Dk mtX4_init 13 (.bipush 6) 2 15 := ⟨by decide +kernel, rfl⟩
theorem kX4_init_15 : Dk mtX4_init 15 (.newarray .int) 2 17 := ⟨by decide +kernel, rfl⟩
theorem kX4_init_17 : Dk mtX4_init 17 (.putfield 15) 3 20 := ⟨by decide +kernel, rfl⟩
theorem kX4_init_20 : Dk mtX4_init 20 (.return_) 1 21 := ⟨by decide +kernel, rfl⟩
theorem miX4_init : MkI mtX4_init 0 := ⟨List.mem_of_getElem? (i := 40) (by decide +kernel), by decide +kernel, by decide +kernel, ⟨by decide +kernel, by decide +kernel, by decide +kernel⟩⟩
theorem loX4 : Cond.methodLink RX4 3 Lib.objectInit ∈ lw_tbl := by decide +kernel
theorem lgX4_11 : Cond.fieldLink RX4 11 (gT 4 0).1 (gT 4 0).2.1 (gT 4 0).2.2.1 ∈ lw_tbl := by decide +kernel
theorem lgX4_15 : Cond.fieldLink RX4 15 (gT 4 1).1 (gT 4 1).2.1 (gT 4 1).2.2.1 ∈ lw_tbl := by decide +kernel
def mtX3_init : Mt := (yX3_init, cX3_init, 2, none, 3, 62, 290, 2752)
theorem kX3_init_0 : Dk mtX3_init 0 (.aload_n 0) 1 1 := ⟨by decide +kernel, rfl⟩
theorem kX3_init_1 : Dk mtX3_init 1 (.invokespecial 1) 3 4 := ⟨by decide +kernel, rfl⟩
theorem kX3_init_4 : Dk mtX3_init 4 (.aload_n 0) 1 5 := ⟨by decide +kernel, rfl⟩
theorem kX3_init_5 : Dk mtX3_init 5 (.bipush 14) 2 7 := ⟨by decide +kernel, rfl⟩
theorem kX3_init_7 : Dk mtX3_init 7 (.anewarray 9) 3 10 := ⟨by decide +kernel, rfl⟩
theorem kX3_init_10 : Dk mtX3_init 10 (.putfield 11) 3 13 := ⟨by decide +kernel, rfl⟩
theorem kX3_init_13 : Dk mtX3_init 13 (.iconst 0) 1 14 := ⟨by decide +kernel, rfl⟩
theorem kX3_init_14 : Dk mtX3_init 14 (.istore_n 1) 1 15 := ⟨by decide +kernel, rfl⟩
theorem kX3_init_15 : Dk mtX3_init 15 (.iload_n 1) 1 16 := ⟨by decide +kernel, rfl⟩
theorem kX3_init_16 : Dk mtX3_init 16 (.aload_n 0) 1 17 := ⟨by decide +kernel, rfl⟩
theorem kX3_init_17 : Dk mtX3_init 17 (.getfield 11) 3 20 := ⟨by decide +kernel, rfl⟩
theorem kX3_init_20 : Dk mtX3_init 20 (.arraylength) 1 21 := ⟨by decide +kernel, rfl⟩
theorem kX3_init_21 : Dk mtX3_init 21 (.if_icmp .ge 22) 3 24 := ⟨by decide +kernel, rfl⟩
theorem kX3_init_24 : Dk mtX3_init 24 (.aload_n 0) 1 25 := ⟨by decide +kernel, rfl⟩
theorem kX3_init_25 : Dk mtX3_init 25 (.getfield 11) 3 28 := ⟨by decide +kernel, rfl⟩
theorem kX3_init_28 : Dk mtX3_init 28 (.iload_n 1) 1 29 := ⟨by decide +kernel, rfl⟩
theorem kX3_init_29 : Dk mtX3_init 29 (.new 9) 3 32 := ⟨by decide +kernel, rfl⟩
theorem kX3_init_32 : Dk mtX3_init 32 (.dup) 1 33 := ⟨by decide +kernel, rfl⟩
theorem kX3_init_33 : Dk mtX3_init 33 (.invokespecial 15) 3 36 := ⟨by decide +kernel, rfl⟩
theorem kX3_init_36 : Dk mtX3_init 36 (.aastore) 1 37 := ⟨by decide +kernel, rfl⟩
theorem kX3_init_37 : Dk mtX3_init 37 (.iinc 1 1) 3 40 := ⟨by decide +kernel, rfl⟩
theorem kX3_init_40 : Dk mtX3_init 40 (.goto (-25)) 3 43 := ⟨by decide +kernel, rfl⟩
theorem kX3_init_43 : Dk mtX3_init 43 (.aload_n 0) 1 44 := ⟨by decide +kernel, rfl⟩
theorem kX3_init_44 : Dk mtX3_init 44 (.iconst 2) 1 45 := ⟨by decide +kernel, rfl⟩
theorem kX3_init_45 : Dk mtX3_init 45 (.anewarray 9) 3 48 := ⟨by decide +kernel, rfl⟩
theorem kX3_init_48 : Dk mtX3_init 48 (.putfield 16) 3 51 := ⟨by decide +kernel, rfl⟩
theorem kX3_init_51 : Dk mtX3_init 51 (.iconst 0) 1 52 := ⟨by decide +kernel, rfl⟩
theorem kX3_init_52 : Dk mtX3_init 52 (.istore_n 1) 1 53 := ⟨by decide +kernel, rfl⟩
theorem kX3_init_53 : Dk mtX3_init 53 (.iload_n 1) 1 54 := ⟨by decide +kernel, rfl⟩
theorem kX3_init_54 : Dk mtX3_init 54 (.aload_n 0) 1 55 := ⟨by decide +kernel, rfl⟩
theorem kX3_init_55 : Dk mtX3_init 55 (.getfield 16) 3 58 := ⟨by decide +kernel, rfl⟩
theorem kX3_init_58 : Dk mtX3_init 58 (.arraylength) 1 59 := ⟨by decide +kernel, rfl⟩
theorem kX3_init_59 : Dk mtX3_init 59 (.if_icmp .ge 22) 3 62 := ⟨by decide +kernel, rfl⟩
theorem kX3_init_62 : Dk mtX3_init 62 (.aload_n 0) 1 63 := ⟨by decide +kernel, rfl⟩
theorem kX3_init_63 : Dk mtX3_init 63 (.getfield 16) 3 66 := ⟨by decide +kernel, rfl⟩
theorem kX3_init_66 : Dk mtX3_init 66 (.iload_n 1) 1 67 := ⟨by decide +kernel, rfl⟩
theorem kX3_init_67 : Dk mtX3_init 67 (.new 9) 3 70 := ⟨by decide +kernel, rfl⟩
theorem kX3_init_70 : Dk mtX3_init 70 (.dup) 1 71 := ⟨by decide +kernel, rfl⟩
theorem kX3_init_71 : Dk mtX3_init 71 (.invokespecial 15) 3 74 := ⟨by decide +kernel, rfl⟩
theorem kX3_init_74 : Dk mtX3_init 74 (.aastore) 1 75 := ⟨by decide +kernel, rfl⟩
theorem kX3_init_75 : Dk mtX3_init 75 (.iinc 1 1) 3 78 := ⟨by decide +kernel, rfl⟩
theorem kX3_init_78 : Dk mtX3_init 78 (.goto (-25)) 3 81 := ⟨by decide +kernel, rfl⟩
theorem kX3_init_81 : Dk mtX3_init 81 (.return_) 1 82 := ⟨by decide +kernel, rfl⟩
theorem miX3_init : MkI mtX3_init 0 := ⟨List.mem_of_getElem? (i := 201) (by decide +kernel), by decide +kernel, by decide +kernel, ⟨by decide +kernel, by decide +kernel, by decide +kernel⟩⟩
theorem loX3 : Cond.methodLink RX3 1 Lib.objectInit ∈ lw_tbl := by decide +kernel
theorem lkX3_9 : Cond.classLink RX3 9 RX1 ∈ lw_tbl := by decide +kernel
theorem lgX3_11 : Cond.fieldLink RX3 11 (gT 3 0).1 (gT 3 0).2.1 (gT 3 0).2.2.1 ∈ lw_tbl := by decide +kernel
theorem lmX3_15 : LkM RX3 15 mtX1_init := Or.inl (by decide +kernel)
theorem lgX3_16 : Cond.fieldLink RX3 16 (gT 3 1).1 (gT 3 1).2.1 (gT 3 1).2.2.1 ∈ lw_tbl := by decide +kernel
def mtX5_init : Mt := (yX5_init, cX5_init, 1, none, 4, 83, 330, 3230)
theorem kX5_init_0 : Dk mtX5_init 0 (.aload_n 0) 1 1 := ⟨by decide +kernel, rfl⟩
theorem kX5_init_1 : Dk mtX5_init 1 (.invokespecial 1) 3 4 := ⟨by decide +kernel, rfl⟩
theorem kX5_init_4 : Dk mtX5_init 4 (.aload_n 0) 1 5 := ⟨by decide +kernel, rfl⟩
theorem kX5_init_5 : Dk mtX5_init 5 (.new 7) 3 8 := ⟨by decide +kernel, rfl⟩
theorem kX5_init_8 : Dk mtX5_init 8 (.dup) 1 9 := ⟨by decide +kernel, rfl⟩
theorem kX5_init_9 : Dk mtX5_init 9 (.invokespecial 9) 3 12 := ⟨by decide +kernel, rfl⟩
theorem kX5_init_12 : Dk mtX5_init 12 (.putfield 10) 3 15 := ⟨by decide +kernel, rfl⟩
theorem kX5_init_15 : Dk mtX5_init 15 (.aload_n 0) 1 16 := ⟨by decide +kernel, rfl⟩
theorem kX5_init_16 : Dk mtX5_init 16 (.new 16) 3 19 := ⟨by decide +kernel, rfl⟩
theorem kX5_init_19 : Dk mtX5_init 19 (.dup) 1 20 := ⟨by decide +kernel, rfl⟩
theorem kX5_init_20 : Dk mtX5_init 20 (.invokespecial 18) 3 23 := ⟨by decide +kernel, rfl⟩
theorem kX5_init_23 : Dk mtX5_init 23 (.putfield 19) 3 26 := ⟨by decide +kernel, rfl⟩
theorem kX5_init_26 : Dk mtX5_init 26 (.aload_n 0) 1 27 := ⟨by decide +kernel, rfl⟩
theorem kX5_init_27 : Dk mtX5_init 27 (.new 16) 3 30 := ⟨by decide +kernel, rfl⟩
theorem kX5_init_30 : Dk mtX5_init 30 (.dup) 1 31 := ⟨by decide +kernel, rfl⟩
theorem kX5_init_31 : Dk mtX5_init 31 (.invokespecial 18) 3 34 := ⟨by decide +kernel, rfl⟩
theorem kX5_init_34 : Dk mtX5_init 34 (.putfield 23) 3 37 := ⟨by decide +kernel, rfl⟩
theorem kX5_init_37 : Dk mtX5_init 37 (.aload_n 0) 1 38 := ⟨by decide +kernel, rfl⟩
theorem kX5_init_38 : Dk mtX5_init 38 (.new 26) 3 41 := ⟨by decide +kernel, rfl⟩
theorem kX5_init_41 : Dk mtX5_init 41 (.dup) 1 42 := ⟨by decide +kernel, rfl⟩
theorem kX5_init_42 : Dk mtX5_init 42 (.invokespecial 28) 3 45 := ⟨by decide +kernel, rfl⟩
theorem kX5_init_45 : Dk mtX5_init 45 (.putfield 29) 3 48 := ⟨by decide +kernel, rfl⟩
theorem kX5_init_48 : Dk mtX5_init 48 (.return_) 1 49 := ⟨by decide +kernel, rfl⟩
theorem loX5 : Cond.methodLink RX5 1 Lib.objectInit ∈ lw_tbl := by decide +kernel
theorem lkX5_7 : Cond.classLink RX5 7 RX4 ∈ lw_tbl := by decide +kernel
theorem lmX5_9 : LkM RX5 9 mtX4_init := Or.inl (by decide +kernel)
theorem lgX5_10 : Cond.fieldLink RX5 10 (gT 5 0).1 (gT 5 0).2.1 (gT 5 0).2.2.1 ∈ lw_tbl := by decide +kernel
theorem lkX5_16 : Cond.classLink RX5 16 RX1 ∈ lw_tbl := by decide +kernel
theorem lmX5_18 : LkM RX5 18 mtX1_init := Or.inl (by decide +kernel)
theorem lgX5_19 : Cond.fieldLink RX5 19 (gT 5 1).1 (gT 5 1).2.1 (gT 5 1).2.2.1 ∈ lw_tbl := by decide +kernel
theorem lgX5_23 : Cond.fieldLink RX5 23 (gT 5 2).1 (gT 5 2).2.1 (gT 5 2).2.2.1 ∈ lw_tbl := by decide +kernel
theorem lkX5_26 : Cond.classLink RX5 26 RX3 ∈ lw_tbl := by decide +kernel
theorem lmX5_28 : LkM RX5 28 mtX3_init := Or.inl (by decide +kernel)
theorem lgX5_29 : Cond.fieldLink RX5 29 (gT 5 3).1 (gT 5 3).2.1 (gT 5 3).2.2.1 ∈ lw_tbl := by decide +kernel
theorem oi_ : Cond.instanceMethod Lib.objectInit ∈ lw_tbl ∧ Cond.code Lib.objectInit ⟨#[0xb1]⟩ 1 none ∈ lw_tbl := ⟨by decide +kernel, by decide +kernel⟩
theorem ni0 : Cond.instantiable (gC 0) (nf 0) ∈ lw_tbl ∧ Cond.initialized (gC 0) ∈ lw_tbl := ⟨by decide +kernel, by decide +kernel⟩
theorem ni1 : Cond.instantiable (gC 1) (nf 1) ∈ lw_tbl ∧ Cond.initialized (gC 1) ∈ lw_tbl := ⟨by decide +kernel, by decide +kernel⟩
theorem ni2 : Cond.instantiable (gC 2) (nf 2) ∈ lw_tbl ∧ Cond.initialized (gC 2) ∈ lw_tbl := ⟨by decide +kernel, by decide +kernel⟩
theorem ni3 : Cond.instantiable (gC 3) (nf 3) ∈ lw_tbl ∧ Cond.initialized (gC 3) ∈ lw_tbl := ⟨by decide +kernel, by decide +kernel⟩
theorem ni4 : Cond.instantiable (gC 4) (nf 4) ∈ lw_tbl ∧ Cond.initialized (gC 4) ∈ lw_tbl := ⟨by decide +kernel, by decide +kernel⟩
/-! constructors -/
theorem Ext.psh {w0 w : Wd} {n : Nat} (E : Ext w0 w n) (hN : wN w < 1000000) (a : Nat) (q : Nat × Nat) : Ext w0 (wpush w a q) (n + 1) := E.tr (Ext.push hN a q)
theorem Ext.n {w0 w : Wd} {n : Nat} (E : Ext w0 w n) : wN w = wN w0 + n := E.2.2.2.1
theorem Ext.b {w0 w : Wd} {n : Nat} (E : Ext w0 w n) : wB w = wB w0 := E.2.2.1
theorem Ext.k {w0 w : Wd} {n k : Nat} (E : Ext w0 w n) (hk : k < wN w0) : wK w k = wK w0 k := (E.2.2.2.2.2 k hk).1
theorem Ext.r {w0 w : Wd} {n k : Nat} (E : Ext w0 w n) (hk : k < wN w0) : wR w k = wR w0 k := (E.2.2.2.2.2 k hk).2.1
theorem Ext.a {w0 w : Wd} {n k : Nat} (E : Ext w0 w n) (hk : k < wN w0) : wA w k = wA w0 k := E.2.2.2.2.1 k (Or.inl hk)
theorem pK_n {w : Wd} {a : Nat} {q : Nat × Nat} {k : Nat} (h : k = wN w) : wK (wpush w a q) k = q := if_pos h
theorem pK_o {w : Wd} {a : Nat} {q : Nat × Nat} {k : Nat} (h : k < wN w) : wK (wpush w a q) k = wK w k := if_neg (Nat.ne_of_lt h)
theorem pR_o {w : Wd} {a : Nat} {q : Nat × Nat} {k : Nat} (h : k < wN w) : wR (wpush w a q) k = wR w k := if_neg (Nat.ne_of_lt h)
/-- what a cell refers to is there -/
def WrAt (w : Wd) (k : Nat) : Prop := ∀ kd len, wK w k = (kd, len) → (kd < 6 → ∀ j q, rf kd k j = some q → okr w q) ∧ (14 ≤ kd → kd < 17 → ∀ j q, j < len → ae kd k j = some q → okr w q) ∧ (50 ≤ kd → ∀ j q, wR w k j = some q → okr w q)
theorem Wr.blk {w0 w : Wd} {n : Nat} (h : Wr w0) (E : Ext w0 w n) (hn : ∀ i, i < n → WrAt w (wN w0 + i)) : Wr w := by
  intro k kd len hk hK
  rcases Nat.lt_or_ge k (wN w0) with h2 | h2
  · have hK0 : wK w0 k = (kd, len) := (E.k h2).symm.trans hK
    obtain ⟨h3, h4, h5⟩ := h k kd len h2 hK0
    exact ⟨fun z j q e => E.ro (h3 z j q e), fun z1 z2 j q hj e => E.ro (h4 z1 z2 j q hj e), fun z j q e => E.ro (h5 z j q (by rw [← E.r h2]; exact e))⟩
  · have := E.n
    have h3 := hn (k - wN w0) (by omega)
    rw [show wN w0 + (k - wN w0) = k by omega] at h3
    exact h3 kd len hK
theorem WrAt.leaf {w : Wd} {k kd len : Nat} (hK : wK w k = (kd, len)) (h : (kd < 6 → ∀ j, rf kd k j = none) ∧ ¬ (14 ≤ kd ∧ kd < 17) ∧ kd < 50) : WrAt w k := by
  intro kd' len' hK'
  obtain ⟨rfl, rfl⟩ : kd = kd' ∧ len = len' := by
    have := hK.symm.trans hK'
    exact ⟨congrArg Prod.fst this, congrArg Prod.snd this⟩
  exact ⟨fun z j q e => absurd ((h.1 z j).symm.trans e) (by simp), fun z1 z2 => absurd ⟨z1, z2⟩ h.2.1, fun z => by omega⟩
theorem WrAt.obj {w : Wd} {k kd len : Nat} (hK : wK w k = (kd, len)) (hkd : kd < 6) (h : ∀ j q, rf kd k j = some q → okr w q) : WrAt w k := by
  intro kd' len' hK'
  obtain ⟨rfl, rfl⟩ : kd = kd' ∧ len = len' := by
    have := hK.symm.trans hK'
    exact ⟨congrArg Prod.fst this, congrArg Prod.snd this⟩
  exact ⟨fun _ => h, fun z1 z2 => by omega, fun z => by omega⟩
theorem WrAt.row {w : Wd} {k kd len : Nat} (hK : wK w k = (kd, len)) (hkd : 14 ≤ kd ∧ kd < 17) (h : ∀ j q, j < len → ae kd k j = some q → okr w q) : WrAt w k := by
  intro kd' len' hK'
  obtain ⟨rfl, rfl⟩ : kd = kd' ∧ len = len' := by
    have := hK.symm.trans hK'
    exact ⟨congrArg Prod.fst this, congrArg Prod.snd this⟩
  exact ⟨fun z => by omega, fun _ _ => h, fun z => by omega⟩
/-! told anew -/
theorem eE_same {w : Wd} {K : Nat → Nat × Nat} {sg : Sg} {k : Nat} (h : K k = wK w k) : eE (cE w sg k) (cE (wkind w K) sg k) := by
  refine Or.inl ?_
  have e : wK (wkind w K) k = wK w k := h
  unfold cE
  rw [e]
  rfl
theorem eE_obj {w : Wd} {K : Nat → Nat × Nat} {sg : Sg} {k ci n n2 : Nat} (hK : wK w k = (50 + ci, n)) (hK2 : K k = (ci, n2)) (hci : ci < 6) (h : ∀ j q, rf ci k j = some q → ∃ a b, wR w k j = some (a, b, q.2.2)) : eE (cE w sg k) (cE (wkind w K) sg k) := by
  refine Or.inl ?_
  rw [cE_raw hK hci, cE_obj (w := wkind w K) hK2 hci]
  refine congrArg (fun z => Sum.inr (ci, z)) (map_rg (fun j _ => ?_))
  unfold fW fV
  cases e : rf ci k j with
  | none => rfl
  | some q =>
    obtain ⟨a, b, h1⟩ := h j q e
    rw [h1]
    rfl
theorem eE_row {w : Wd} {K : Nat → Nat × Nat} {sg : Sg} {k kd n : Nat} (hK : wK w k = (50 + kd, n)) (hK2 : K k = (kd, n)) (hkd : 14 ≤ kd ∧ kd < 17) (h : ∀ j, j < n → ∃ q a b, ae kd k j = some q ∧ wR w k j = some (a, b, q.2.2)) : eE (cE w sg k) (cE (wkind w K) sg k) := by
  refine Or.inr ⟨_, _, _, _, cE_rawQ hK hkd.1, cE_rowQ (w := wkind w K) hK2 hkd.1 (by omega), fun j hj => ?_⟩
  obtain ⟨q, a, b, h1, h2⟩ := h j hj
  rw [h1, h2]
  rfl
/-- the kinds of a coast's cells -/
def CK (i : Nat) : Nat × Nat := if i = 0 then (1, 0) else if i = 1 then (14, 6) else if i < 8 then (2, 0) else if i = 8 then (15, 8) else if i < 17 then (0, 0) else (10, 4)
def CB (w : Wd) (c : Nat) : Prop := ∀ i, i < 18 → wK w (c + i) = CK i
theorem CB.ext {w w' : Wd} {n c : Nat} (h : CB w c) (E : Ext w w' n) (hc : c + 18 ≤ wN w) : CB w' c := fun i hi => (E.k (by omega)).trans (h i hi)
theorem CB.push {w : Wd} {c a : Nat} {q : Nat × Nat} (h : CB w c) (hc : c + 18 ≤ wN w) : CB (wpush w a q) c := fun i hi => (pK_o (by omega)).trans (h i hi)
theorem rf1_in {k j : Nat} {q : Nat × Nat × Nat} (h : rf 1 k j = some q) : (j = 0 ∧ q = (14, 6, k + 1)) ∨ (j = 1 ∧ q = (15, 8, k + 8)) ∨ (j = 2 ∧ q = (10, 4, k + 17)) := by
  match j, h with
  | 0, h => exact Or.inl ⟨rfl, (Option.some.inj h).symm⟩
  | 1, h => exact Or.inr (Or.inl ⟨rfl, (Option.some.inj h).symm⟩)
  | 2, h => exact Or.inr (Or.inr ⟨rfl, (Option.some.inj h).symm⟩)
  | j + 3, h => exact absurd h (by simp [rf])
theorem rf3_in {k j : Nat} {q : Nat × Nat × Nat} (h : rf 3 k j = some q) : (j = 0 ∧ q = (16, 14, k + 1)) ∨ (j = 1 ∧ q = (16, 2, k + 254)) := by
  match j, h with
  | 0, h => exact Or.inl ⟨rfl, (Option.some.inj h).symm⟩
  | 1, h => exact Or.inr ⟨rfl, (Option.some.inj h).symm⟩
  | j + 2, h => exact absurd h (by simp [rf])
theorem rf4_in {k j : Nat} {q : Nat × Nat × Nat} (h : rf 4 k j = some q) : (j = 0 ∧ q = (11, 120, k + 1)) ∨ (j = 1 ∧ q = (10, 6, k + 2)) := by
  match j, h with
  | 0, h => exact Or.inl ⟨rfl, (Option.some.inj h).symm⟩
  | 1, h => exact Or.inr ⟨rfl, (Option.some.inj h).symm⟩
  | j + 2, h => exact absurd h (by simp [rf])
theorem rf5_in {k j : Nat} {q : Nat × Nat × Nat} (h : rf 5 k j = some q) : (j = 0 ∧ q = (4, 0, k + 1)) ∨ (j = 1 ∧ q = (1, 0, k + 4)) ∨ (j = 2 ∧ q = (1, 0, k + 22)) ∨ (j = 3 ∧ q = (3, 0, k + 40)) := by
  match j, h with
  | 0, h => exact Or.inl ⟨rfl, (Option.some.inj h).symm⟩
  | 1, h => exact Or.inr (Or.inl ⟨rfl, (Option.some.inj h).symm⟩)
  | 2, h => exact Or.inr (Or.inr (Or.inl ⟨rfl, (Option.some.inj h).symm⟩))
  | 3, h => exact Or.inr (Or.inr (Or.inr ⟨rfl, (Option.some.inj h).symm⟩))
  | j + 4, h => exact absurd h (by simp [rf])
theorem rf0_n (k j : Nat) : rf 0 k j = none := by simp [rf]
theorem rf2_n (k j : Nat) : rf 2 k j = none := by simp [rf]
theorem CB.wr {w : Wd} {c : Nat} (h : CB w c) (hc : c + 18 ≤ wN w) : ∀ i, i < 18 → WrAt w (c + i) := by
  intro i hi
  have hi' := h i hi
  unfold CK at hi'
  by_cases h0 : i = 0
  · subst h0
    rw [if_pos rfl] at hi'
    refine WrAt.obj hi' (by decide) (fun j q e => ?_)
    rcases rf1_in e with ⟨-, rfl⟩ | ⟨-, rfl⟩ | ⟨-, rfl⟩
    · exact okr_of (by decide) (by omega) (h 1 (by decide))
    · exact okr_of (by decide) (by omega) (h 8 (by decide))
    · exact okr_of (by decide) (by omega) (h 17 (by decide))
  rw [if_neg h0] at hi'
  by_cases h1 : i = 1
  · subst h1
    rw [if_pos rfl] at hi'
    refine WrAt.row hi' (by decide) (fun j q hj e => ?_)
    obtain rfl : (2, 0, c + 1 + 1 + j) = q := Option.some.inj e
    have h9 := h (2 + j) (by omega)
    unfold CK at h9
    rw [if_neg (by omega), if_neg (by omega), if_pos (by omega)] at h9
    exact okr_of (by decide) (by omega) (by rw [show c + 1 + 1 + j = c + (2 + j) by omega]; exact h9)
  rw [if_neg h1] at hi'
  by_cases h2 : i < 8
  · rw [if_pos h2] at hi'
    exact WrAt.leaf hi' ⟨fun _ j => rf2_n _ j, by decide, by decide⟩
  rw [if_neg h2] at hi'
  by_cases h3 : i = 8
  · subst h3
    rw [if_pos rfl] at hi'
    refine WrAt.row hi' (by decide) (fun j q hj e => ?_)
    obtain rfl : (0, 0, c + 8 + 1 + j) = q := Option.some.inj e
    have h9 := h (9 + j) (by omega)
    unfold CK at h9
    rw [if_neg (by omega), if_neg (by omega), if_neg (by omega), if_neg (by omega), if_pos (by omega)] at h9
    exact okr_of (by decide) (by omega) (by rw [show c + 8 + 1 + j = c + (9 + j) by omega]; exact h9)
  rw [if_neg h3] at hi'
  by_cases h4 : i < 17
  · rw [if_pos h4] at hi'
    exact WrAt.leaf hi' ⟨fun _ j => rf0_n _ j, by decide, by decide⟩
  rw [if_neg h4] at hi'
  exact WrAt.leaf hi' ⟨fun z => absurd z (by decide), by decide, by decide⟩
set_option maxHeartbeats 4000000 in
set_option maxRecDepth 100000 in
/-- a light -/
theorem cn_light {l : Launch} {w : Wd} {sg : Sg} {c : Nat} : MN l mtX2_init w [vR (some (2, 0, c))] sg (fun w' sg' => w' = w ∧ sg' = sg) := by
  refine MN_of [some (vR (some (2, 0, c)))] rfl (Nat.le_of_ble_eq_true rfl) (by decide +kernel) rfl ?_
  intro p_ e_ s_ m_ args_ below_ meth_ c_ hC hin hB hO
  refine V_aload_n hC kX2_init_0 rfl ?_
  refine V_objI hC loX2 oi_ kX2_init_1 ⟨(Nat.le_of_ble_eq_true rfl), (Nat.le_of_ble_eq_true rfl)⟩ ?_
  exact V_vretN hC rfl rfl kX2_init_4 ⟨Nat.le_refl _, Nat.le_refl _⟩ ⟨rfl, rfl⟩
set_option maxHeartbeats 4000000 in
set_option maxRecDepth 100000 in
/-- a boat -/
theorem cn_boat {l : Launch} {w : Wd} {sg : Sg} {c : Nat} (b : Int32) : MN l mtX0_init w [vR (some (0, 0, c)), vI b] sg (fun w' sg' => w' = w ∧ sg' = ups sg c 0 (1 <<< (b &&& 31))) := by
  refine MN_of [some (vR (some (0, 0, c))), some (vI b)] rfl (Nat.le_of_ble_eq_true rfl) (by decide +kernel) rfl ?_
  intro p_ e_ s_ m_ args_ below_ meth_ c_ hC hin hB hO
  refine V_aload_n hC kX0_init_0 rfl ?_
  refine V_objI hC loX0 oi_ kX0_init_1 ⟨(Nat.le_of_ble_eq_true rfl), (Nat.le_of_ble_eq_true rfl)⟩ ?_
  refine V_aload_n hC kX0_init_4 rfl ?_
  refine V_iconst hC (1) kX0_init_5 (by decide) ?_
  refine V_iload_n hC kX0_init_6 rfl ?_
  refine V_ishl hC kX0_init_7 ?_
  refine V_putIF hC hin 0 0 lgX0_9 kX0_init_8 (by decide) (by decide) rfl ⟨rfl, rfl⟩ ⟨rfl, rfl⟩ ?_
  exact V_vretN hC rfl rfl kX0_init_11 ⟨Nat.le_refl _, Nat.le_refl _⟩ ⟨rfl, rfl⟩
theorem Vm.rf (w : Wd) (v : VV) : Vm w w v v := ⟨rfl, id⟩
theorem LR.rf (w : Wd) : ∀ a : List VV, LR w w a a
  | [] => trivial
  | v :: a => ⟨Vm.rf w v, LR.rf w a⟩
theorem LO.rf (w : Wd) : ∀ a : List (Option VV), LO w w a a
  | [] => trivial
  | none :: a => LO.rf w a
  | some v :: a => ⟨Vm.rf w v, LO.rf w a⟩
theorem Cx_back {p : Program} {R : Room} {s : State} {m : MethodId} {args : Array Value} {meth : Method} {c : Code} {t : Mt} {w : Wd} {a : Nat} {q : Nat × Nat} (hN : wN w < 1000000) (hC : Cx p R s m args meth c t (wpush w a q)) : Cx p R s m args meth c t w := Cx_of hC rfl rfl rfl (fun k hk => (show wA (wpush w a q) k = wA w k from if_neg (by omega)).symm)
/-- a reference in an object: put elsewhere, it stays -/
theorem sR_r {w : Wd} {k j k' j' : Nat} {r q : Option (Nat × Nat × Nat)} (h : k' ≠ k ∨ j' ≠ j) (h2 : wR w k' j' = q) : wR (wsetR w k j r) k' j' = q := (wsetR_ne w r h).trans h2
theorem pR_r {w : Wd} {a : Nat} {z : Nat × Nat} {k' j' : Nat} {q : Option (Nat × Nat × Nat)} (h : k' < wN w) (h2 : wR w k' j' = q) : wR (wpush w a z) k' j' = q := (congrFun (pR_o h) j').trans h2
/-- coast, first loop: i lights are there -/
def L1 (w0 : Wd) (a c : Nat) (sg : Sg) (i : Nat) (w : Wd) (sg' : Sg) : Prop := Ext w0 w (2 + i) ∧ Wr w ∧ wK w c = (51, 0) ∧ wK w (c + 1) = (64, 6) ∧ (∀ j, j < i → wK w (c + 2 + j) = (2, 0)) ∧ wR w c 0 = some (64, 6, c + 1) ∧ (∀ j, j < i → wR w (c + 1) j = some (2, 0, c + 2 + j)) ∧ wA w c = a ∧ ∀ k, k < c → sg' k = sg k
/-- second loop: i boats -/
def L2 (w0 : Wd) (a c : Nat) (sg : Sg) (i : Nat) (w : Wd) (sg' : Sg) : Prop := Ext w0 w (9 + i) ∧ Wr w ∧ wK w c = (51, 0) ∧ wK w (c + 1) = (64, 6) ∧ (∀ j, j < 6 → wK w (c + 2 + j) = (2, 0)) ∧ wK w (c + 8) = (65, 8) ∧ (∀ j, j < i → wK w (c + 9 + j) = (0, 0)) ∧ wR w c 0 = some (64, 6, c + 1) ∧ wR w c 1 = some (65, 8, c + 8) ∧ (∀ j, j < 6 → wR w (c + 1) j = some (2, 0, c + 2 + j)) ∧ (∀ j, j < i → wR w (c + 8) j = some (0, 0, c + 9 + j)) ∧ wA w c = a ∧ (∀ k, k < c → sg' k = sg k) ∧ ∀ j, j < i → sg' (c + 9 + j) 0 = 1 <<< (nI j &&& 31)
set_option maxHeartbeats 8000000 in
set_option maxRecDepth 100000 in
/-- a coast -/
theorem cn_coast {l : Launch} {w0 : Wd} {sg : Sg} {a c : Nat} (hW0 : Wr w0) (hc : wN w0 = c) (hc2 : c + 18 < 1000000) : MN l mtX1_init (wpush w0 a (51, 0)) [vR (some (51, 0, c))] sg (fun w' sg' => Ext w0 w' 18 ∧ Wr w' ∧ CB w' c ∧ wA w' c = a ∧ (∀ k, k < c → sg' k = sg k) ∧ Rel sg' c (F_begins (fun _ => 0))) := by
  refine MN_of [some (vR (some (51, 0, c))), none] rfl (Nat.le_of_ble_eq_true rfl) (by decide +kernel) rfl ?_
  intro p_ e_ s_ m_ args_ below_ meth_ c_ hC hin hB hO
  have hC0 := Cx_back (by omega) hC
  have hB0 : wB w0 ≤ s_.heap.size := hB
  have E1 : Ext w0 (wpush w0 a (51, 0)) 1 := Ext.push (by omega) a (51, 0)
  have W1 : Wr (wpush w0 a (51, 0)) := hW0.push (by omega) a ⟨fun z => absurd z (by decide), by decide⟩
  have K1 : wK (wpush w0 a (51, 0)) c = (51, 0) := pK_n hc.symm
  have A1 : wA (wpush w0 a (51, 0)) c = a := if_pos hc.symm
  generalize wpush w0 a (51, 0) = w1 at hC hB hO E1 W1 K1 A1 ⊢
  have n1 : wN w1 = c + 1 := by have := E1.n; omega
  refine V_aload_n hC kX1_init_0 rfl ?_
  refine V_objI hC loX1 oi_ kX1_init_1 ⟨(Nat.le_of_ble_eq_true rfl), (Nat.le_of_ble_eq_true rfl)⟩ ?_
  refine V_aload_n hC kX1_init_4 rfl ?_
  refine V_bipush hC 6 kX1_init_5 (by decide) ?_
  refine V_newQ hC W1 hB (by omega) 14 6 (by decide) lkX1_9 (by decide) rfl (by decide) kX1_init_7 ⟨(Nat.le_of_ble_eq_true rfl), (Nat.le_of_ble_eq_true rfl)⟩ (fun a2 => ?_)
  rw [n1]
  have E2 : Ext w0 (wpush w1 a2 (50 + 14, 6)) 2 := E1.psh (by omega) a2 _
  have W2 : Wr (wpush w1 a2 (50 + 14, 6)) := W1.push (by omega) a2 ⟨fun z => absurd z (by decide), by decide⟩
  have K2 : wK (wpush w1 a2 (50 + 14, 6)) c = (51, 0) := (pK_o (by omega)).trans K1
  have K2a : wK (wpush w1 a2 (50 + 14, 6)) (c + 1) = (64, 6) := pK_n n1.symm
  have A2 : wA (wpush w1 a2 (50 + 14, 6)) c = a := (if_neg (by omega)).trans A1
  generalize wpush w1 a2 (50 + 14, 6) = w2 at E2 W2 K2 K2a A2 ⊢
  have n2 : wN w2 = c + 2 := by have := E2.n; omega
  refine V_putRF (Cx_ext hC0 E2) hin 1 0 lgX1_11 kX1_init_10 (by decide) (by decide) rfl ⟨rfl, rfl⟩ (fun _ => ⟨rfl, rfl⟩) ?_
  have E3 : Ext w0 (wsetR w2 c 0 (some (64, 6, c + 1))) 2 := E2.setR (by omega) 0 _
  have H1 : L1 w0 a c sg 0 (wsetR w2 c 0 (some (64, 6, c + 1))) (upr sg (c + 1) (fun _ => 0)) := ⟨E3, W2.setR (okr_of (by decide) (by omega) K2a), K2, K2a, fun j hj => absurd hj (Nat.not_lt_zero _), wsetR_at _ _ _ _, fun j hj => absurd hj (Nat.not_lt_zero _), A2, fun k hk => upr_ne _ _ (by omega)⟩
  refine V_iconst (Cx_ext hC0 E3) (0) kX1_init_13 (by decide) ?_
  refine V_istore_n (Cx_ext hC0 E3) [some _, some _] kX1_init_14 rfl (Nat.le_of_ble_eq_true rfl) ?_
  refine V_loopW 6 (L1 w0 a c sg) (fun i => 1 + i) (fun i => 6 + 9 * i) (fun i => [some (vR (some (51, 0, c))), some (vI (nI i))]) rfl ⟨rfl, rfl⟩ H1 (fun w6 sg6 hI => ?_) (fun i w' sg' hi hI ih => ?_)
  · obtain ⟨E, W, k0, k1, k2, r0, r1, ra, sm⟩ := hI
    have n6 : wN w6 = c + 8 := by have := E.n; omega
    have hC6 := Cx_ext hC0 E
    refine V_iload_n hC6 kX1_init_15 rfl ?_
    refine V_aload_n hC6 kX1_init_16 rfl ?_
    refine V_getRw hC6 1 0 lgX1_11 kX1_init_17 (by decide) (by decide) rfl r0 (okr_of (by decide) (by omega) k1) ?_
    refine V_alenw hC6 (kd := 14) 6 kX1_init_20 (by decide) rfl ?_
    refine V_icmp_ge hC6 43 kX1_init_21 (by decide) (fun _ => ?_) (fun h => absurd (show (6 : Int32) ≤ nI 6 by decide) h)
    refine V_aload_n hC6 kX1_init_43 rfl ?_
    refine V_bipush hC6 8 kX1_init_44 (by decide) ?_
    refine V_newQ hC6 W (by rw [E.b]; exact hB0) (by omega) 15 8 (by decide) lkX1_18 (by decide) rfl (by decide) kX1_init_46 ⟨(Nat.le_of_ble_eq_true rfl), (Nat.le_of_ble_eq_true rfl)⟩ (fun a3 => ?_)
    rw [n6]
    have F2 : Ext w0 (wpush w6 a3 (50 + 15, 8)) 9 := E.psh (by omega) a3 _
    have X2 : Wr (wpush w6 a3 (50 + 15, 8)) := W.push (by omega) a3 ⟨fun z => absurd z (by decide), by decide⟩
    have g0 : wK (wpush w6 a3 (50 + 15, 8)) c = (51, 0) := (pK_o (by omega)).trans k0
    have g1 : wK (wpush w6 a3 (50 + 15, 8)) (c + 1) = (64, 6) := (pK_o (by omega)).trans k1
    have g2 : ∀ j, j < 6 → wK (wpush w6 a3 (50 + 15, 8)) (c + 2 + j) = (2, 0) := fun j hj => (pK_o (by omega)).trans (k2 j hj)
    have g3 : wK (wpush w6 a3 (50 + 15, 8)) (c + 8) = (65, 8) := pK_n n6.symm
    have g4 : wR (wpush w6 a3 (50 + 15, 8)) c 0 = some (64, 6, c + 1) := pR_r (by omega) r0
    have g5 : ∀ j, j < 6 → wR (wpush w6 a3 (50 + 15, 8)) (c + 1) j = some (2, 0, c + 2 + j) := fun j hj => pR_r (by omega) (r1 j hj)
    have g6 : wA (wpush w6 a3 (50 + 15, 8)) c = a := (if_neg (by omega)).trans ra
    generalize wpush w6 a3 (50 + 15, 8) = w7 at F2 X2 g0 g1 g2 g3 g4 g5 g6 ⊢
    have n7 : wN w7 = c + 9 := by have := F2.n; omega
    refine V_putRF (Cx_ext hC0 F2) hin 1 1 lgX1_20 kX1_init_49 (by decide) (by decide) rfl ⟨rfl, rfl⟩ (fun _ => ⟨rfl, rfl⟩) ?_
    have F3 : Ext w0 (wsetR w7 c 1 (some (65, 8, c + 8))) 9 := F2.setR (by omega) 1 _
    have H2 : L2 w0 a c sg 0 (wsetR w7 c 1 (some (65, 8, c + 8))) (upr sg6 (c + 8) (fun _ => 0)) := ⟨F3, X2.setR (okr_of (by decide) (by omega) g3), g0, g1, g2, g3, fun j hj => absurd hj (Nat.not_lt_zero _), sR_r (Or.inr (by decide)) g4, wsetR_at _ _ _ _, fun j hj => sR_r (Or.inl (by omega)) (g5 j hj), fun j hj => absurd hj (Nat.not_lt_zero _), g6, fun k hk => (upr_ne _ _ (by omega)).trans (sm k hk), fun j hj => absurd hj (Nat.not_lt_zero _)⟩
    refine V_iconst (Cx_ext hC0 F3) (0) kX1_init_52 (by decide) ?_
    refine V_istore_n (Cx_ext hC0 F3) [some _, some _] kX1_init_53 rfl (Nat.le_of_ble_eq_true rfl) ?_
    refine V_loopW 8 (L2 w0 a c sg) (fun i => 8 + i) (fun i => 68 + 11 * i) (fun i => [some (vR (some (51, 0, c))), some (vI (nI i))]) rfl ⟨rfl, rfl⟩ H2 (fun w8 sg8 hI => ?_) (fun i w' sg' hi hI ih => ?_)
    · obtain ⟨E, W, k0, k1, k2, k3, k4, r0, r1, r2, r3, ra, sm, sb⟩ := hI
      have n8 : wN w8 = c + 17 := by have := E.n; omega
      have hC8 := Cx_ext hC0 E
      refine V_iload_n hC8 kX1_init_54 rfl ?_
      refine V_aload_n hC8 kX1_init_55 rfl ?_
      refine V_getRw hC8 1 1 lgX1_20 kX1_init_56 (by decide) (by decide) rfl r1 (okr_of (by decide) (by omega) k3) ?_
      refine V_alenw hC8 (kd := 15) 8 kX1_init_59 (by decide) rfl ?_
      refine V_icmp_ge hC8 83 kX1_init_60 (by decide) (fun _ => ?_) (fun h => absurd (show (8 : Int32) ≤ nI 8 by decide) h)
      refine V_aload_n hC8 kX1_init_83 rfl ?_
      refine V_iconst hC8 (4) kX1_init_84 (by decide) ?_
      refine V_newI hC8 W (by rw [E.b]; exact hB0) (by omega) 10 4 (Or.inl (Or.inl ⟨rfl, rfl⟩)) (by decide) rfl (by decide) kX1_init_85 ⟨(Nat.le_of_ble_eq_true rfl), (Nat.le_of_ble_eq_true rfl)⟩ (fun a4 => ?_)
      rw [n8]
      have G2 : Ext w0 (wpush w8 a4 (10, 4)) 18 := E.psh (by omega) a4 _
      have g0 : wK (wpush w8 a4 (10, 4)) c = (51, 0) := (pK_o (by omega)).trans k0
      have g1 : wK (wpush w8 a4 (10, 4)) (c + 1) = (64, 6) := (pK_o (by omega)).trans k1
      have g2 : ∀ j, j < 6 → wK (wpush w8 a4 (10, 4)) (c + 2 + j) = (2, 0) := fun j hj => (pK_o (by omega)).trans (k2 j hj)
      have g3 : wK (wpush w8 a4 (10, 4)) (c + 8) = (65, 8) := (pK_o (by omega)).trans k3
      have g4 : ∀ j, j < 8 → wK (wpush w8 a4 (10, 4)) (c + 9 + j) = (0, 0) := fun j hj => (pK_o (by omega)).trans (k4 j hj)
      have g5 : wK (wpush w8 a4 (10, 4)) (c + 17) = (10, 4) := pK_n n8.symm
      have g6 : wR (wpush w8 a4 (10, 4)) c 0 = some (64, 6, c + 1) := pR_r (by omega) r0
      have g7 : wR (wpush w8 a4 (10, 4)) c 1 = some (65, 8, c + 8) := pR_r (by omega) r1
      have g8 : ∀ j, j < 6 → wR (wpush w8 a4 (10, 4)) (c + 1) j = some (2, 0, c + 2 + j) := fun j hj => pR_r (by omega) (r2 j hj)
      have g9 : ∀ j, j < 8 → wR (wpush w8 a4 (10, 4)) (c + 8) j = some (0, 0, c + 9 + j) := fun j hj => pR_r (by omega) (r3 j hj)
      have ga : wA (wpush w8 a4 (10, 4)) c = a := (if_neg (by omega)).trans ra
      generalize wpush w8 a4 (10, 4) = w9 at G2 g0 g1 g2 g3 g4 g5 g6 g7 g8 g9 ga ⊢
      have n9 : wN w9 = c + 18 := by have := G2.n; omega
      refine V_putRF (Cx_ext hC0 G2) hin 1 2 lgX1_27 kX1_init_87 (by decide) (by decide) rfl ⟨rfl, rfl⟩ (fun _ => ⟨rfl, rfl⟩) ?_
      have G3 : Ext w0 (wsetR w9 c 2 (some (10, 4, c + 17))) 18 := G2.setR (by omega) 2 _
      have h6 : wR (wsetR w9 c 2 (some (10, 4, c + 17))) c 0 = some (64, 6, c + 1) := sR_r (Or.inr (by decide)) g6
      have h7 : wR (wsetR w9 c 2 (some (10, 4, c + 17))) c 1 = some (65, 8, c + 8) := sR_r (Or.inr (by decide)) g7
      have h2 : wR (wsetR w9 c 2 (some (10, 4, c + 17))) c 2 = some (10, 4, c + 17) := wsetR_at _ _ _ _
      have h8 : ∀ j, j < 6 → wR (wsetR w9 c 2 (some (10, 4, c + 17))) (c + 1) j = some (2, 0, c + 2 + j) := fun j hj => sR_r (Or.inl (by omega)) (g8 j hj)
      have h9 : ∀ j, j < 8 → wR (wsetR w9 c 2 (some (10, 4, c + 17))) (c + 8) j = some (0, 0, c + 9 + j) := fun j hj => sR_r (Or.inl (by omega)) (g9 j hj)
      have q0 : wK (wsetR w9 c 2 (some (10, 4, c + 17))) c = (51, 0) := g0
      have q1 : wK (wsetR w9 c 2 (some (10, 4, c + 17))) (c + 1) = (64, 6) := g1
      have q2 : ∀ j, j < 6 → wK (wsetR w9 c 2 (some (10, 4, c + 17))) (c + 2 + j) = (2, 0) := g2
      have q3 : wK (wsetR w9 c 2 (some (10, 4, c + 17))) (c + 8) = (65, 8) := g3
      have q4 : ∀ j, j < 8 → wK (wsetR w9 c 2 (some (10, 4, c + 17))) (c + 9 + j) = (0, 0) := g4
      have q5 : wK (wsetR w9 c 2 (some (10, 4, c + 17))) (c + 17) = (10, 4) := g5
      have qa : wA (wsetR w9 c 2 (some (10, 4, c + 17))) c = a := ga
      have qn : wN (wsetR w9 c 2 (some (10, 4, c + 17))) = c + 18 := n9
      generalize wsetR w9 c 2 (some (10, 4, c + 17)) = v at G3 h6 h7 h2 h8 h9 q0 q1 q2 q3 q4 q5 qa qn ⊢
      have hCv := Cx_ext hC0 G3
      refine V_aload_n hCv kX1_init_90 rfl ?_
      obtain ⟨K, hK⟩ : ∃ K : Nat → Nat × Nat, K = fun k => if k < c then wK v k else if k < c + 18 then CK (k - c) else wK v k := ⟨_, rfl⟩
      have Ko : ∀ k, k < c → K k = wK v k := fun k hk => by rw [hK]; exact if_pos hk
      have Kn : ∀ i, i < 18 → K (c + i) = CK i := fun i hi => by
        rw [hK]
        show (if c + i < c then _ else if c + i < c + 18 then CK (c + i - c) else _) = _
        rw [if_neg (by omega), if_pos (by omega), Nat.add_sub_cancel_left]
      have K0 : K c = (1, 0) := Kn 0 (by decide)
      have G4 : Ext w0 (wkind v K) 18 := G3.kind (fun k hk => Ko k (by omega))
      have B4 : CB (wkind v K) c := Kn
      have W4 : Wr (wkind v K) := hW0.blk G4 (by rw [hc]; exact B4.wr (Nat.le_of_eq qn.symm))
      have hre : ∀ k, k < wN v → ∀ sg, eE (cE v sg k) (cE (wkind v K) sg k) := by
        intro k hk sg
        rw [qn] at hk
        by_cases z0 : k < c
        · exact eE_same (Ko k z0)
        by_cases z1 : k = c
        · subst z1
          refine eE_obj (ci := 1) q0 K0 (by decide) (fun j q e => ?_)
          rcases rf1_in e with ⟨rfl, rfl⟩ | ⟨rfl, rfl⟩ | ⟨rfl, rfl⟩
          · exact ⟨_, _, h6⟩
          · exact ⟨_, _, h7⟩
          · exact ⟨_, _, h2⟩
        by_cases z2 : k = c + 1
        · subst z2
          exact eE_row (kd := 14) q1 (Kn 1 (by decide)) (by decide) (fun j hj => ⟨_, _, _, rfl, h8 j hj⟩)
        by_cases z3 : k = c + 8
        · subst z3
          exact eE_row (kd := 15) q3 (Kn 8 (by decide)) (by decide) (fun j hj => ⟨_, _, _, rfl, h9 j hj⟩)
        by_cases z4 : k < c + 8
        · have y1 := q2 (k - (c + 2)) (by omega)
          have y2 := Kn (k - c) (by omega)
          rw [show c + 2 + (k - (c + 2)) = k by omega] at y1
          rw [show c + (k - c) = k by omega] at y2
          unfold CK at y2
          rw [if_neg (by omega), if_neg (by omega), if_pos (by omega)] at y2
          exact eE_same (y2.trans y1.symm)
        by_cases z5 : k < c + 17
        · have y1 := q4 (k - (c + 9)) (by omega)
          have y2 := Kn (k - c) (by omega)
          rw [show c + 9 + (k - (c + 9)) = k by omega] at y1
          rw [show c + (k - c) = k by omega] at y2
          unfold CK at y2
          rw [if_neg (by omega), if_neg (by omega), if_neg (by omega), if_neg (by omega), if_pos (by omega)] at y2
          exact eE_same (y2.trans y1.symm)
        obtain rfl : k = c + 17 := by omega
        exact eE_same ((Kn 17 (by decide)).trans q5.symm)
      refine V_re (w' := wkind v K) (loc' := [none, none]) (st' := [vR (some (1, 0, c))]) (fun H hP => Wp_re (w := v) (w' := wkind v K) rfl rfl rfl (fun _ _ => rfl) (fun k hk => hre k hk _) hP) rfl trivial ⟨Vm.r rfl (fun _ => okr_of (by decide) (by show c < wN v; omega) K0), trivial⟩ ?_
      have hB8 : Bt (upr sg8 (c + 17) (fun _ => 0)) c := fun b hb => by
        rw [upr_ne _ _ (by omega)]
        exact sb b hb
      refine V_cV_rV (Cx_ext hC0 G4) (cl_reset W4 (fun _ => 0) hB8) mkX1_reset lmX1_31 kX1_init_91 (by decide) rfl rfl rfl (Nat.le_of_ble_eq_true rfl) ⟨(Nat.le_of_ble_eq_true rfl), (Nat.le_of_ble_eq_true rfl)⟩ ⟨rfl, rfl⟩ ⟨(Nat.le_of_ble_eq_true rfl), (Nat.le_of_ble_eq_true rfl)⟩ (fun g91 h91 => ?_)
      refine V_vretN (Cx_ext hC0 G4) (by rw [G4.b, E1.b]) rfl kX1_init_94 ⟨(Nat.le_of_ble_eq_true rfl), (Nat.le_of_ble_eq_true rfl)⟩ ?_
      exact ⟨G4, W4, B4, qa, fun k hk => (h91.2 k (Or.inl hk)).trans ((upr_ne _ _ (by omega)).trans (sm k hk)), h91.1⟩
    · obtain ⟨E, W, k0, k1, k2, k3, k4, r0, r1, r2, r3, ra, sm, sb⟩ := hI
      have n' : wN w' = c + 9 + i := by have := E.n; omega
      have hC' := Cx_ext hC0 E
      refine V_iload_n hC' kX1_init_54 rfl ?_
      refine V_aload_n hC' kX1_init_55 rfl ?_
      refine V_getRw hC' 1 1 lgX1_20 kX1_init_56 (by decide) (by decide) rfl r1 (okr_of (by decide) (by omega) k3) ?_
      refine V_alenw hC' (kd := 15) 8 kX1_init_59 (by decide) rfl ?_
      refine V_icmp_ge hC' 83 kX1_init_60 (by decide) (fun h => absurd h (by exact nI_ge (b := 8) hi (by decide))) (fun _ => ?_)
      refine V_aload_n hC' kX1_init_63 rfl ?_
      refine V_getRw hC' 1 1 lgX1_20 kX1_init_64 (by decide) (by decide) rfl r1 (okr_of (by decide) (by omega) k3) ?_
      refine V_iload_n hC' kX1_init_67 rfl ?_
      refine V_new hC' W (by rw [E.b]; exact hB0) (by omega) 0 0 (Or.inr ⟨rfl, fun j => rf0_n _ j⟩) (by decide) lkX1_18 ni0 kX1_init_68 ⟨by show 8 + i + 1 ≤ 17; omega, by show 68 + 11 * i + 11 ≤ 160; omega⟩ (fun a5 => ?_)
      rw [n']
      have E5 : Ext w0 (wpush w' a5 (0, 0)) (9 + (i + 1)) := E.psh (by omega) a5 (0, 0)
      have hC5 := Cx_ext hC0 E5
      refine V_dup hC5 kX1_init_71 rfl ?_
      refine V_iload_n hC5 kX1_init_72 rfl ?_
      refine V_invI [some (vR (some (51, 0, c))), some (vI (nI i))] [vR (some (0, 0, c + 9 + i)), vI (nI i), vR (some (50 + 15, 8, c + 8))] hC5 (by rw [E5.b]; exact hB0) (cn_boat (nI i)) miX0_init rfl rfl lmX1_24 kX1_init_73 rfl rfl (Nat.le_of_ble_eq_true rfl) ⟨(Nat.le_of_ble_eq_true rfl), (Nat.le_of_ble_eq_true rfl)⟩ ⟨by show 8 + i + 1 + 0 ≤ 17; omega, by show 68 + 11 * i + 11 + 0 ≤ 160; omega⟩ (fun w2 sg2 h => by obtain ⟨rfl, rfl⟩ := h; exact ⟨rfl, LO.rf _ _, LR.rf _ _⟩) (fun w2 sg2 h => ?_)
      obtain ⟨rfl, rfl⟩ := h
      refine V_aastw hC5 (kd := 15) i (nI_clamp (by omega)) kX1_init_76 (by decide) (by decide) rfl (vp_in_nI hi (by decide)) ?_
      have E6 := E5.setR (k := c + 8) (by omega) i (some (0, 0, c + 9 + i))
      refine V_iinc (Cx_ext hC0 E6) (nI (i + 1)) [some _, some _] kX1_init_77 rfl (nI_succ i).symm rfl (Nat.le_of_ble_eq_true rfl) ?_
      refine V_goto (Cx_ext hC0 E6) 54 kX1_init_80 (by decide) ?_
      refine V_wd (k := 8 + (i + 1)) (n := 68 + 11 * (i + 1)) ⟨by show 8 + i + 1 + 0 ≤ _; omega, by show 68 + 11 * i + 11 + 0 ≤ _; omega⟩ (ih _ _ ⟨E6, (W.push (by omega) a5 ⟨fun _ j => rf0_n _ j, by decide⟩).setR (okr_of (by decide) (by have := E5.n; omega) (pK_n (a := a5) n'.symm)), (pK_o (a := a5) (q := (0, 0)) (by omega)).trans k0, (pK_o (a := a5) (q := (0, 0)) (by omega)).trans k1, fun j hj => (pK_o (a := a5) (q := (0, 0)) (by omega)).trans (k2 j hj), (pK_o (a := a5) (q := (0, 0)) (by omega)).trans k3, fun j hj => ?_, sR_r (Or.inl (by omega)) (pR_r (a := a5) (z := (0, 0)) (by omega) r0), sR_r (Or.inl (by omega)) (pR_r (a := a5) (z := (0, 0)) (by omega) r1), fun j hj => sR_r (Or.inl (by omega)) (pR_r (a := a5) (z := (0, 0)) (by omega) (r2 j hj)), fun j hj => ?_, (if_neg (by omega)).trans ra, fun k hk => (ups_ne _ _ _ (by omega)).trans ((upr_ne _ _ (by omega)).trans (sm k hk)), fun j hj => ?_⟩)
      · rcases Nat.lt_or_ge j i with z | z
        · exact (pK_o (a := a5) (q := (0, 0)) (by omega)).trans (k4 j z)
        · obtain rfl : j = i := by omega
          exact pK_n (a := a5) n'.symm
      · rcases Nat.lt_or_ge j i with z | z
        · exact sR_r (Or.inr (by omega)) (pR_r (a := a5) (z := (0, 0)) (by omega) (r3 j z))
        · obtain rfl : j = i := by omega
          exact wsetR_at _ _ _ _
      · rcases Nat.lt_or_ge j i with z | z
        · rw [ups_ne _ _ _ (by omega), upr_ne _ _ (by omega)]
          exact sb j z
        · obtain rfl : j = i := by omega
          exact ups_s _ _ _ _
  · obtain ⟨E, W, k0, k1, k2, r0, r1, ra, sm⟩ := hI
    have n' : wN w' = c + 2 + i := by have := E.n; omega
    have hC' := Cx_ext hC0 E
    refine V_iload_n hC' kX1_init_15 rfl ?_
    refine V_aload_n hC' kX1_init_16 rfl ?_
    refine V_getRw hC' 1 0 lgX1_11 kX1_init_17 (by decide) (by decide) rfl r0 (okr_of (by decide) (by omega) k1) ?_
    refine V_alenw hC' (kd := 14) 6 kX1_init_20 (by decide) rfl ?_
    refine V_icmp_ge hC' 43 kX1_init_21 (by decide) (fun h => absurd h (by exact nI_ge (b := 6) hi (by decide))) (fun _ => ?_)
    refine V_aload_n hC' kX1_init_24 rfl ?_
    refine V_getRw hC' 1 0 lgX1_11 kX1_init_25 (by decide) (by decide) rfl r0 (okr_of (by decide) (by omega) k1) ?_
    refine V_iload_n hC' kX1_init_28 rfl ?_
    refine V_new hC' W (by rw [E.b]; exact hB0) (by omega) 2 2 (Or.inr ⟨rfl, fun j => rf2_n _ j⟩) (by decide) lkX1_9 ni2 kX1_init_29 ⟨by show 1 + i + 1 ≤ 17; omega, by show 6 + 9 * i + 9 ≤ 160; omega⟩ (fun a5 => ?_)
    rw [n']
    have E5 : Ext w0 (wpush w' a5 (2, 0)) (2 + (i + 1)) := E.psh (by omega) a5 (2, 0)
    have hC5 := Cx_ext hC0 E5
    refine V_dup hC5 kX1_init_32 rfl ?_
    refine V_invI [some (vR (some (51, 0, c))), some (vI (nI i))] [vR (some (2, 0, c + 2 + i)), vI (nI i), vR (some (50 + 14, 6, c + 1))] hC5 (by rw [E5.b]; exact hB0) cn_light miX2_init rfl rfl lmX1_17 kX1_init_33 rfl rfl (Nat.le_of_ble_eq_true rfl) ⟨(Nat.le_of_ble_eq_true rfl), (Nat.le_of_ble_eq_true rfl)⟩ ⟨by show 1 + i + 1 + 0 ≤ 17; omega, by show 6 + 9 * i + 9 + 0 ≤ 160; omega⟩ (fun w2 sg2 h => by obtain ⟨rfl, rfl⟩ := h; exact ⟨rfl, LO.rf _ _, LR.rf _ _⟩) (fun w2 sg2 h => ?_)
    obtain ⟨rfl, rfl⟩ := h
    refine V_aastw hC5 (kd := 14) i (nI_clamp (by omega)) kX1_init_36 (by decide) (by decide) rfl (vp_in_nI hi (by decide)) ?_
    have E6 := E5.setR (k := c + 1) (by omega) i (some (2, 0, c + 2 + i))
    refine V_iinc (Cx_ext hC0 E6) (nI (i + 1)) [some _, some _] kX1_init_37 rfl (nI_succ i).symm rfl (Nat.le_of_ble_eq_true rfl) ?_
    refine V_goto (Cx_ext hC0 E6) 15 kX1_init_40 (by decide) ?_
    refine V_wd (k := 1 + (i + 1)) (n := 6 + 9 * (i + 1)) ⟨by show 1 + i + 1 + 0 ≤ _; omega, by show 6 + 9 * i + 9 + 0 ≤ _; omega⟩ (ih _ _ ⟨E6, (W.push (by omega) a5 ⟨fun _ j => rf2_n _ j, by decide⟩).setR (okr_of (by decide) (by have := E5.n; omega) (pK_n (a := a5) n'.symm)), (pK_o (a := a5) (q := (2, 0)) (by omega)).trans k0, (pK_o (a := a5) (q := (2, 0)) (by omega)).trans k1, fun j hj => ?_, sR_r (Or.inl (by omega)) (pR_r (a := a5) (z := (2, 0)) (by omega) r0), fun j hj => ?_, (if_neg (by omega)).trans ra, fun k hk => (upr_ne _ _ (by omega)).trans (sm k hk)⟩)
    · rcases Nat.lt_or_ge j i with z | z
      · exact (pK_o (a := a5) (q := (2, 0)) (by omega)).trans (k2 j z)
      · obtain rfl : j = i := by omega
        exact pK_n (a := a5) n'.symm
    · rcases Nat.lt_or_ge j i with z | z
      · exact sR_r (Or.inr (by omega)) (pR_r (a := a5) (z := (2, 0)) (by omega) (r1 j z))
      · obtain rfl : j = i := by omega
        exact wsetR_at _ _ _ _


