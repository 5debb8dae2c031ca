-- HOW ct_in fI
-- HOW ct_fails fI
-- HOW ct_of fI
-- HOW ct_ofBoat fI
-- HOW ct_layBoat fV
-- HOW ct_isLight fI
-- HOW ct_isBoat fI
-- HOW ct_isPlace fI
-- HOW ct_bright fI
-- HOW ct_worth fI
-- HOW ct_serves fI
-- HOW ct_best fI
-- HOW ct_sails fV
-- HOW ct_drops fV
-- HOW ct_wished fI
-- HOW ct_hands fV
-- HOW ct_wishes fV
-- HOW ct_finds fV
-- HOW ct_goesOn fV
-- HOW ct_goesTick fV
-- HOW ct_goesBy fI
-- HOW ct_putAside fV
-- HOW ct_takeBack fV
-- HOW ct_isLamp fI
-- HOW ct_addsLight fI
-- HOW ct_actsLight fI
-- HOW ct_addsBoat fI
-- HOW ct_actsBoat fI
-- HOW ct_actsSteer fI
-- HOW ct_canTalk fI
-- HOW ct_actsTalk fI
-- HOW ct_actsLean fI
-- HOW ct_actsDim fI
-- HOW ct_mostOf fI
-- HOW ct_isSetting fI
-- HOW ct_actsSet fI
-- HOW ct_actsTicks fI
-- HOW ct_boatsThat fI
-- HOW ct_servedBy fI
-- HOW ct_begins fV
-- HOW ct_tellsAbout fI
-- HOW ct_about fM
-- HOW ct_lightOf fM
-- HOW ct_boatOf fM
-- HOW ct_brightness fM
-- HOW ct_bestAt fM
-- HOW ct_setting fM
-- HOW ct_saves fV
-- HOW ct_light fM
-- HOW ct_boat fM
-- HOW ct_steer fM
-- HOW ct_talk fM
-- HOW ct_lean fM
-- HOW ct_dim fM
-- HOW ct_set fM
-- HOW ct_ticks fM
-- HOW ct_undo fM
-- HOW ct_save fM
-- HOW ct_restore fM
-- HOW ct_bringsBy fI
-- HOW ct_ifMargin fM
-- HOW ct_held fI
-- HOW ct_room fI
-- HOW ct_dark fI
-- HOW ct_turns fV
-- HOW ct_simulate fM
-- HOW ct_border fM
-- HOW ct_handedIn fM
-- HOW ct_bestMargin fM
-- HOW ct_thrown fI
-- HOW ct_sign fI
-- HOW ct_number fI
-- HOW ct_carriesLight fI
-- HOW ct_carries fI
-- HOW ct_isCommand fI
-- HOW ct_append fM
-- HOW ct_clearText fM
-- HOW ct_readsAll fV
-- HOW ct_errorPosition fI
-- HOW ct_load rI
-- HOW ct_pair fI
-- HOW ct_laysFigures fV
-- HOW ct_succeeds fI
-- HOW ct_runScript rI
-- HOW cl_isPlace fI
-- HOW cl_isSpeed fI
-- HOW cl_isStrength fI
-- HOW cl_isTickCount fI
-- HOW cl_isSetting fI
-- HOW cl_isSlot fI
-- HOW cl_isSettingValue fI
-- HOW cl_shown fI
-- HOW cl_withoutGroups fL
-- HOW cl_lbegin fV
-- HOW cl_lcopy fV
-- HOW cl_bcopy fV
-- HOW cl_lnum fI
-- HOW cl_bnum fI
-- HOW cl_bright fI
-- HOW cl_worth fI
-- HOW cl_bitCount fI
-- HOW cl_servedCount fI
-- HOW cl_takesHandedOn fI
-- HOW cl_takesOthers fI
-- HOW cl_bbegin fV
-- HOW cl_move fV
-- HOW cl_wishFor fV
-- HOW cl_lightR fR
-- HOW cl_lightN fR
-- HOW cl_boatR fR
-- HOW cl_boatN fR
-- HOW cl_setR fI
-- HOW cl_lightAt fR
-- HOW cl_lightAtNo fR
-- HOW cl_boatAt fR
-- HOW cl_boatAtNo fR
-- HOW cl_settingOf fI
-- HOW cl_servedBoats fI
-- HOW cl_talkingBoats fI
-- HOW cl_numberOf fI
-- HOW cl_brightest fI
-- HOW cl_isDark fI
-- HOW cl_freePlaces fI
-- HOW cl_isServing fI
-- HOW cl_isServingAtLeast fI
-- HOW cl_isBoatAt fI
-- HOW cl_lightFault fI
-- HOW cl_boatFault fI
-- HOW cl_steerFault fI
-- HOW cl_dimFault fI
-- HOW cl_leanFault fI
-- HOW cl_talkFault fI
-- HOW cl_putSpeed rI
-- HOW cl_putTalk rI
-- HOW cl_putLeaning rI
-- HOW cl_putStrength rI
-- HOW cl_putSetting rI
-- HOW cl_addLight rI
-- HOW cl_addBoat rI
-- HOW cl_tryLight rI
-- HOW cl_tryBoat rI
-- HOW cl_trySteer rI
-- HOW cl_tryTalk rI
-- HOW cl_tryLean rI
-- HOW cl_tryDim rI
-- HOW cl_trySet rI
-- HOW cl_serve rV
-- HOW cl_lose rV
-- HOW cl_bestWish fI
-- HOW cl_seekKeeper rV
-- HOW cl_ask rV
-- HOW cl_setW fI
-- HOW cl_sail rV
-- HOW cl_pass rV
-- HOW cl_reset rV
-- HOW cl_copyFrom rV
-- HOW cl_stateAt fR
-- HOW cl_slotAt fR
-- HOW cl_hasStates fI
-- HOW cl_mreset rV
-- HOW cl_remember rV
-- HOW cl_takeBack rI
-- HOW cl_isKept fI
-- HOW cl_keep rV
-- HOW cl_bring rV
-- HOW cl_isFull fI
-- HOW cl_add fI
-- HOW cl_empty fI
-- HOW cl_hasMore fI
-- HOW cl_signAt fI
-- HOW cl_number fI
-- HOW cl_formOf fR
-- HOW cl_readNumber fI
-- HOW cl_formY fR
-- HOW cl_formN fR
-- HOW cl_readHead fI
-- HOW cl_readCommand rI
-- HOW cl_errorPlace rI
-- HOW cl_gained fI
-- HOW cl_tryMargin rV
-- HOW cl_until rI
-- HOW cl_dark fI
-- HOW cl_room fI
-- HOW cl_takeTurn rV
-- HOW cl_runCommand rI
-- HOW cl_obey rI
-- HOW cl_throwFault xV
-- HOW cf_about xI
-- HOW cf_lightOf xI
-- HOW cf_boatOf xI
-- HOW cf_brightness xI
-- HOW cf_bestAt xI
-- HOW cf_setting xI
-- HOW cf_light xI
-- HOW cf_boat xI
-- HOW cf_steer xI
-- HOW cf_talk xI
-- HOW cf_lean xI
-- HOW cf_dim xI
-- HOW cf_set xI
-- HOW cf_ticks xI
-- HOW cf_undo xI
-- HOW cf_save xI
-- HOW cf_restore xI
-- HOW cf_append xI
-- HOW cf_clearText fI
-- HOW cf_ifMargin xI
-- HOW cf_handedIn xI
-- HOW cf_errorPosition rI
-- HOW cf_simulate xI
-- HOW cf_border xI
-- HOW cf_bestMargin xI
-- HOW cf_runScript xI
-- HOW cf_load xI
theorem ltL_101 : Cond.methodLink RL 101 (mY mtL_append) ∈ lw_tbl := by decide +kernel
theorem mt_L_append : MkT mtL_append [(0, 9, 12, 13), (0, 9, 15, 15)] 3 := ⟨List.mem_of_getElem? (i := 387) (by decide +kernel), by decide +kernel, by decide +kernel, ⟨by decide +kernel, by decide +kernel, by decide +kernel⟩⟩
theorem mkX6_append : MkV mtX6_append 1 := ⟨List.mem_of_getElem? (i := 1075) (by decide +kernel), by decide +kernel, by decide +kernel, by decide +kernel, ⟨by decide +kernel, by decide +kernel, by decide +kernel⟩⟩
theorem lmL_106 : LkM RL 106 mtX6_append := Or.inl (by decide +kernel)
theorem mkX6_thrown : MkV mtX6_thrown 0 := ⟨List.mem_of_getElem? (i := 1071) (by decide +kernel), by decide +kernel, by decide +kernel, by decide +kernel, ⟨by decide +kernel, by decide +kernel, by decide +kernel⟩⟩
theorem lmL_107 : LkM RL 107 mtX6_thrown := Or.inl (by decide +kernel)
theorem mkX5_clearText : MkV mtX5_clearText 0 := ⟨List.mem_of_getElem? (i := 299) (by decide +kernel), by decide +kernel, by decide +kernel, by decide +kernel, ⟨by decide +kernel, by decide +kernel, by decide +kernel⟩⟩
theorem lmL_110 : LkM RL 110 mtX5_clearText := Or.inl (by decide +kernel)
theorem mkX6_clearText : MkV mtX6_clearText 0 := ⟨List.mem_of_getElem? (i := 1086) (by decide +kernel), by decide +kernel, by decide +kernel, by decide +kernel, ⟨by decide +kernel, by decide +kernel, by decide +kernel⟩⟩
theorem lmL_113 : LkM RL 113 mtX6_clearText := Or.inl (by decide +kernel)
theorem mkX5_errorPosition : MkV mtX5_errorPosition 0 := ⟨List.mem_of_getElem? (i := 307) (by decide +kernel), by decide +kernel, by decide +kernel, by decide +kernel, ⟨by decide +kernel, by decide +kernel, by decide +kernel⟩⟩
theorem lmL_114 : LkM RL 114 mtX5_errorPosition := Or.inl (by decide +kernel)
theorem mkX6_errorPosition : MkV mtX6_errorPosition 0 := ⟨List.mem_of_getElem? (i := 1090) (by decide +kernel), by decide +kernel, by decide +kernel, by decide +kernel, ⟨by decide +kernel, by decide +kernel, by decide +kernel⟩⟩
theorem lmL_117 : LkM RL 117 mtX6_errorPosition := Or.inl (by decide +kernel)
theorem ltL_118 : Cond.methodLink RL 118 (mY mtL_load) ∈ lw_tbl := by decide +kernel
theorem mt_L_load : MkT mtL_load [(0, 8, 11, 15)] 2 := ⟨List.mem_of_getElem? (i := 488) (by decide +kernel), by decide +kernel, by decide +kernel, ⟨by decide +kernel, by decide +kernel, by decide +kernel⟩⟩
theorem mkX6_load : MkV mtX6_load 0 := ⟨List.mem_of_getElem? (i := 1229) (by decide +kernel), by decide +kernel, by decide +kernel, by decide +kernel, ⟨by decide +kernel, by decide +kernel, by decide +kernel⟩⟩
theorem lmL_121 : LkM RL 121 mtX6_load := Or.inl (by decide +kernel)
theorem ltL_122 : Cond.methodLink RL 122 (mY mtL_about) ∈ lw_tbl := by decide +kernel
theorem mt_L_about : MkT mtL_about [(0, 9, 12, 13)] 3 := ⟨List.mem_of_getElem? (i := 647) (by decide +kernel), by decide +kernel, by decide +kernel, ⟨by decide +kernel, by decide +kernel, by decide +kernel⟩⟩
theorem mkX6_about : MkV mtX6_about 1 := ⟨List.mem_of_getElem? (i := 1233) (by decide +kernel), by decide +kernel, by decide +kernel, by decide +kernel, ⟨by decide +kernel, by decide +kernel, by decide +kernel⟩⟩
theorem lmL_124 : LkM RL 124 mtX6_about := Or.inl (by decide +kernel)
theorem ltL_125 : Cond.methodLink RL 125 (mY mtL_lightOf) ∈ lw_tbl := by decide +kernel
theorem mt_L_lightOf : MkT mtL_lightOf [(0, 10, 13, 28), (0, 10, 17, 13)] 4 := ⟨List.mem_of_getElem? (i := 667) (by decide +kernel), by decide +kernel, by decide +kernel, ⟨by decide +kernel, by decide +kernel, by decide +kernel⟩⟩
theorem mkX6_lightOf : MkV mtX6_lightOf 2 := ⟨List.mem_of_getElem? (i := 1245) (by decide +kernel), by decide +kernel, by decide +kernel, by decide +kernel, ⟨by decide +kernel, by decide +kernel, by decide +kernel⟩⟩
theorem lmL_128 : LkM RL 128 mtX6_lightOf := Or.inl (by decide +kernel)
theorem ltL_129 : Cond.methodLink RL 129 (mY mtL_boatOf) ∈ lw_tbl := by decide +kernel
theorem mt_L_boatOf : MkT mtL_boatOf [(0, 10, 13, 28), (0, 10, 17, 13)] 4 := ⟨List.mem_of_getElem? (i := 697) (by decide +kernel), by decide +kernel, by decide +kernel, ⟨by decide +kernel, by decide +kernel, by decide +kernel⟩⟩
theorem mkX6_boatOf : MkV mtX6_boatOf 2 := ⟨List.mem_of_getElem? (i := 1257) (by decide +kernel), by decide +kernel, by decide +kernel, by decide +kernel, ⟨by decide +kernel, by decide +kernel, by decide +kernel⟩⟩
theorem lmL_131 : LkM RL 131 mtX6_boatOf := Or.inl (by decide +kernel)
theorem ltL_132 : Cond.methodLink RL 132 (mY mtL_brightness) ∈ lw_tbl := by decide +kernel
theorem mt_L_brightness : MkT mtL_brightness [(0, 10, 13, 28)] 4 := ⟨List.mem_of_getElem? (i := 710) (by decide +kernel), by decide +kernel, by decide +kernel, ⟨by decide +kernel, by decide +kernel, by decide +kernel⟩⟩
theorem mkX6_brightness : MkV mtX6_brightness 2 := ⟨List.mem_of_getElem? (i := 1261) (by decide +kernel), by decide +kernel, by decide +kernel, by decide +kernel, ⟨by decide +kernel, by decide +kernel, by decide +kernel⟩⟩
theorem lmL_134 : LkM RL 134 mtX6_brightness := Or.inl (by decide +kernel)
theorem ltL_135 : Cond.methodLink RL 135 (mY mtL_bestAt) ∈ lw_tbl := by decide +kernel
theorem mt_L_bestAt : MkT mtL_bestAt [(0, 10, 13, 28), (0, 10, 17, 13)] 4 := ⟨List.mem_of_getElem? (i := 720) (by decide +kernel), by decide +kernel, by decide +kernel, ⟨by decide +kernel, by decide +kernel, by decide +kernel⟩⟩
theorem mkX6_bestAt : MkV mtX6_bestAt 2 := ⟨List.mem_of_getElem? (i := 1265) (by decide +kernel), by decide +kernel, by decide +kernel, by decide +kernel, ⟨by decide +kernel, by decide +kernel, by decide +kernel⟩⟩
theorem lmL_137 : LkM RL 137 mtX6_bestAt := Or.inl (by decide +kernel)
theorem ltL_138 : Cond.methodLink RL 138 (mY mtL_setting) ∈ lw_tbl := by decide +kernel
theorem mt_L_setting : MkT mtL_setting [(0, 9, 12, 13)] 3 := ⟨List.mem_of_getElem? (i := 734) (by decide +kernel), by decide +kernel, by decide +kernel, ⟨by decide +kernel, by decide +kernel, by decide +kernel⟩⟩
theorem mkX6_setting : MkV mtX6_setting 1 := ⟨List.mem_of_getElem? (i := 1273) (by decide +kernel), by decide +kernel, by decide +kernel, by decide +kernel, ⟨by decide +kernel, by decide +kernel, by decide +kernel⟩⟩
theorem lmL_140 : LkM RL 140 mtX6_setting := Or.inl (by decide +kernel)
theorem ltL_141 : Cond.methodLink RL 141 (mY mtL_light) ∈ lw_tbl := by decide +kernel
theorem mt_L_light : MkT mtL_light [(0, 18, 21, 28), (0, 18, 25, 13), (0, 18, 29, 15)] 8 := ⟨List.mem_of_getElem? (i := 746) (by decide +kernel), by decide +kernel, by decide +kernel, ⟨by decide +kernel, by decide +kernel, by decide +kernel⟩⟩
theorem mkX6_light : MkV mtX6_light 6 := ⟨List.mem_of_getElem? (i := 1277) (by decide +kernel), by decide +kernel, by decide +kernel, by decide +kernel, ⟨by decide +kernel, by decide +kernel, by decide +kernel⟩⟩
theorem lmL_144 : LkM RL 144 mtX6_light := Or.inl (by decide +kernel)
theorem ltL_145 : Cond.methodLink RL 145 (mY mtL_boat) ∈ lw_tbl := by decide +kernel
theorem mt_L_boat : MkT mtL_boat [(0, 10, 13, 28), (0, 10, 17, 13), (0, 10, 21, 15)] 4 := ⟨List.mem_of_getElem? (i := 781) (by decide +kernel), by decide +kernel, by decide +kernel, ⟨by decide +kernel, by decide +kernel, by decide +kernel⟩⟩
theorem mkX6_boat : MkV mtX6_boat 2 := ⟨List.mem_of_getElem? (i := 1285) (by decide +kernel), by decide +kernel, by decide +kernel, by decide +kernel, ⟨by decide +kernel, by decide +kernel, by decide +kernel⟩⟩
theorem lmL_147 : LkM RL 147 mtX6_boat := Or.inl (by decide +kernel)
theorem ltL_148 : Cond.methodLink RL 148 (mY mtL_steer) ∈ lw_tbl := by decide +kernel
theorem mt_L_steer : MkT mtL_steer [(0, 10, 13, 28), (0, 10, 17, 13)] 4 := ⟨List.mem_of_getElem? (i := 790) (by decide +kernel), by decide +kernel, by decide +kernel, ⟨by decide +kernel, by decide +kernel, by decide +kernel⟩⟩
theorem mkX6_steer : MkV mtX6_steer 2 := ⟨List.mem_of_getElem? (i := 1289) (by decide +kernel), by decide +kernel, by decide +kernel, by decide +kernel, ⟨by decide +kernel, by decide +kernel, by decide +kernel⟩⟩
theorem lmL_150 : LkM RL 150 mtX6_steer := Or.inl (by decide +kernel)
theorem ltL_151 : Cond.methodLink RL 151 (mY mtL_talk) ∈ lw_tbl := by decide +kernel
theorem mt_L_talk : MkT mtL_talk [(0, 10, 13, 28), (0, 10, 17, 13), (0, 10, 21, 15)] 4 := ⟨List.mem_of_getElem? (i := 799) (by decide +kernel), by decide +kernel, by decide +kernel, ⟨by decide +kernel, by decide +kernel, by decide +kernel⟩⟩
theorem mkX6_talk : MkV mtX6_talk 2 := ⟨List.mem_of_getElem? (i := 1293) (by decide +kernel), by decide +kernel, by decide +kernel, by decide +kernel, ⟨by decide +kernel, by decide +kernel, by decide +kernel⟩⟩
theorem lmL_153 : LkM RL 153 mtX6_talk := Or.inl (by decide +kernel)
theorem ltL_154 : Cond.methodLink RL 154 (mY mtL_lean) ∈ lw_tbl := by decide +kernel
theorem mt_L_lean : MkT mtL_lean [(0, 10, 13, 28), (0, 10, 17, 13)] 4 := ⟨List.mem_of_getElem? (i := 808) (by decide +kernel), by decide +kernel, by decide +kernel, ⟨by decide +kernel, by decide +kernel, by decide +kernel⟩⟩
theorem mkX6_lean : MkV mtX6_lean 2 := ⟨List.mem_of_getElem? (i := 1297) (by decide +kernel), by decide +kernel, by decide +kernel, by decide +kernel, ⟨by decide +kernel, by decide +kernel, by decide +kernel⟩⟩
theorem lmL_156 : LkM RL 156 mtX6_lean := Or.inl (by decide +kernel)
theorem ltL_157 : Cond.methodLink RL 157 (mY mtL_dim) ∈ lw_tbl := by decide +kernel
theorem mt_L_dim : MkT mtL_dim [(0, 10, 13, 28), (0, 10, 17, 13)] 4 := ⟨List.mem_of_getElem? (i := 823) (by decide +kernel), by decide +kernel, by decide +kernel, ⟨by decide +kernel, by decide +kernel, by decide +kernel⟩⟩
theorem mkX6_dim : MkV mtX6_dim 2 := ⟨List.mem_of_getElem? (i := 1305) (by decide +kernel), by decide +kernel, by decide +kernel, by decide +kernel, ⟨by decide +kernel, by decide +kernel, by decide +kernel⟩⟩
theorem lmL_159 : LkM RL 159 mtX6_dim := Or.inl (by decide +kernel)
theorem ltL_160 : Cond.methodLink RL 160 (mY mtL_set) ∈ lw_tbl := by decide +kernel
theorem mt_L_set : MkT mtL_set [(0, 10, 13, 13)] 4 := ⟨List.mem_of_getElem? (i := 838) (by decide +kernel), by decide +kernel, by decide +kernel, ⟨by decide +kernel, by decide +kernel, by decide +kernel⟩⟩
theorem mkX6_set : MkV mtX6_set 2 := ⟨List.mem_of_getElem? (i := 1313) (by decide +kernel), by decide +kernel, by decide +kernel, by decide +kernel, ⟨by decide +kernel, by decide +kernel, by decide +kernel⟩⟩
theorem lmL_162 : LkM RL 162 mtX6_set := Or.inl (by decide +kernel)
theorem ltL_163 : Cond.methodLink RL 163 (mY mtL_ticks) ∈ lw_tbl := by decide +kernel
theorem mt_L_ticks : MkT mtL_ticks [(0, 9, 12, 13)] 3 := ⟨List.mem_of_getElem? (i := 848) (by decide +kernel), by decide +kernel, by decide +kernel, ⟨by decide +kernel, by decide +kernel, by decide +kernel⟩⟩
theorem mkX6_ticks : MkV mtX6_ticks 1 := ⟨List.mem_of_getElem? (i := 1317) (by decide +kernel), by decide +kernel, by decide +kernel, by decide +kernel, ⟨by decide +kernel, by decide +kernel, by decide +kernel⟩⟩
theorem lmL_165 : LkM RL 165 mtX6_ticks := Or.inl (by decide +kernel)
theorem ltL_166 : Cond.methodLink RL 166 (mY mtL_undo) ∈ lw_tbl := by decide +kernel
theorem mt_L_undo : MkT mtL_undo [(0, 8, 11, 15)] 2 := ⟨List.mem_of_getElem? (i := 859) (by decide +kernel), by decide +kernel, by decide +kernel, ⟨by decide +kernel, by decide +kernel, by decide +kernel⟩⟩
theorem mkX6_undo : MkV mtX6_undo 0 := ⟨List.mem_of_getElem? (i := 1321) (by decide +kernel), by decide +kernel, by decide +kernel, by decide +kernel, ⟨by decide +kernel, by decide +kernel, by decide +kernel⟩⟩
theorem lmL_168 : LkM RL 168 mtX6_undo := Or.inl (by decide +kernel)
theorem ltL_169 : Cond.methodLink RL 169 (mY mtL_handedIn) ∈ lw_tbl := by decide +kernel
theorem mt_L_handedIn : MkT mtL_handedIn [(0, 10, 13, 28), (0, 10, 17, 13)] 4 := ⟨List.mem_of_getElem? (i := 875) (by decide +kernel), by decide +kernel, by decide +kernel, ⟨by decide +kernel, by decide +kernel, by decide +kernel⟩⟩
theorem mkX6_handedIn : MkV mtX6_handedIn 2 := ⟨List.mem_of_getElem? (i := 1325) (by decide +kernel), by decide +kernel, by decide +kernel, by decide +kernel, ⟨by decide +kernel, by decide +kernel, by decide +kernel⟩⟩
theorem lmL_171 : LkM RL 171 mtX6_handedIn := Or.inl (by decide +kernel)
theorem ltL_172 : Cond.methodLink RL 172 (mY mtL_ifMargin) ∈ lw_tbl := by decide +kernel
theorem mt_L_ifMargin : MkT mtL_ifMargin [(0, 12, 15, 13)] 5 := ⟨List.mem_of_getElem? (i := 888) (by decide +kernel), by decide +kernel, by decide +kernel, ⟨by decide +kernel, by decide +kernel, by decide +kernel⟩⟩
theorem mkX6_ifMargin : MkV mtX6_ifMargin 3 := ⟨List.mem_of_getElem? (i := 1337) (by decide +kernel), by decide +kernel, by decide +kernel, by decide +kernel, ⟨by decide +kernel, by decide +kernel, by decide +kernel⟩⟩
theorem lmL_175 : LkM RL 175 mtX6_ifMargin := Or.inl (by decide +kernel)
theorem ltL_176 : Cond.methodLink RL 176 (mY mtL_bestMargin) ∈ lw_tbl := by decide +kernel
theorem mt_L_bestMargin : MkT mtL_bestMargin [(0, 9, 12, 13)] 3 := ⟨List.mem_of_getElem? (i := 905) (by decide +kernel), by decide +kernel, by decide +kernel, ⟨by decide +kernel, by decide +kernel, by decide +kernel⟩⟩
theorem mkX6_bestMargin : MkV mtX6_bestMargin 1 := ⟨List.mem_of_getElem? (i := 1345) (by decide +kernel), by decide +kernel, by decide +kernel, by decide +kernel, ⟨by decide +kernel, by decide +kernel, by decide +kernel⟩⟩
theorem lmL_178 : LkM RL 178 mtX6_bestMargin := Or.inl (by decide +kernel)
theorem mkX5_dark : MkV mtX5_dark 0 := ⟨List.mem_of_getElem? (i := 350) (by decide +kernel), by decide +kernel, by decide +kernel, by decide +kernel, ⟨by decide +kernel, by decide +kernel, by decide +kernel⟩⟩
theorem lmL_179 : LkM RL 179 mtX5_dark := Or.inl (by decide +kernel)
theorem mkX6_dark : MkV mtX6_dark 0 := ⟨List.mem_of_getElem? (i := 1349) (by decide +kernel), by decide +kernel, by decide +kernel, by decide +kernel, ⟨by decide +kernel, by decide +kernel, by decide +kernel⟩⟩
theorem lmL_182 : LkM RL 182 mtX6_dark := Or.inl (by decide +kernel)
theorem ltL_183 : Cond.methodLink RL 183 (mY mtL_border) ∈ lw_tbl := by decide +kernel
theorem mt_L_border : MkT mtL_border [(0, 9, 12, 13)] 3 := ⟨List.mem_of_getElem? (i := 913) (by decide +kernel), by decide +kernel, by decide +kernel, ⟨by decide +kernel, by decide +kernel, by decide +kernel⟩⟩
theorem mkX6_border : MkV mtX6_border 1 := ⟨List.mem_of_getElem? (i := 1353) (by decide +kernel), by decide +kernel, by decide +kernel, by decide +kernel, ⟨by decide +kernel, by decide +kernel, by decide +kernel⟩⟩
theorem lmL_185 : LkM RL 185 mtX6_border := Or.inl (by decide +kernel)
theorem mkX5_room : MkV mtX5_room 0 := ⟨List.mem_of_getElem? (i := 370) (by decide +kernel), by decide +kernel, by decide +kernel, by decide +kernel, ⟨by decide +kernel, by decide +kernel, by decide +kernel⟩⟩
theorem lmL_186 : LkM RL 186 mtX5_room := Or.inl (by decide +kernel)
theorem mkX6_room : MkV mtX6_room 0 := ⟨List.mem_of_getElem? (i := 1357) (by decide +kernel), by decide +kernel, by decide +kernel, by decide +kernel, ⟨by decide +kernel, by decide +kernel, by decide +kernel⟩⟩
theorem lmL_189 : LkM RL 189 mtX6_room := Or.inl (by decide +kernel)
theorem ltL_192 : Cond.methodLink RL 192 (mY mtL_runScript) ∈ lw_tbl := by decide +kernel
theorem mt_L_runScript : MkT mtL_runScript [(0, 11, 14, 13)] 4 := ⟨List.mem_of_getElem? (i := 921) (by decide +kernel), by decide +kernel, by decide +kernel, ⟨by decide +kernel, by decide +kernel, by decide +kernel⟩⟩
theorem mkX6_runScript : MkV mtX6_runScript 2 := ⟨List.mem_of_getElem? (i := 1361) (by decide +kernel), by decide +kernel, by decide +kernel, by decide +kernel, ⟨by decide +kernel, by decide +kernel, by decide +kernel⟩⟩
theorem lmL_195 : LkM RL 195 mtX6_runScript := Or.inl (by decide +kernel)
theorem ltL_196 : Cond.methodLink RL 196 (mY mtL_simulate) ∈ lw_tbl := by decide +kernel
theorem mt_L_simulate : MkT mtL_simulate [(0, 11, 14, 13)] 4 := ⟨List.mem_of_getElem? (i := 957) (by decide +kernel), by decide +kernel, by decide +kernel, ⟨by decide +kernel, by decide +kernel, by decide +kernel⟩⟩
theorem mkX6_simulate : MkV mtX6_simulate 2 := ⟨List.mem_of_getElem? (i := 1379) (by decide +kernel), by decide +kernel, by decide +kernel, by decide +kernel, ⟨by decide +kernel, by decide +kernel, by decide +kernel⟩⟩
theorem lmL_199 : LkM RL 199 mtX6_simulate := Or.inl (by decide +kernel)
theorem ltL_200 : Cond.methodLink RL 200 (mY mtL_save) ∈ lw_tbl := by decide +kernel
theorem mt_L_save : MkT mtL_save [(0, 9, 12, 28)] 3 := ⟨List.mem_of_getElem? (i := 980) (by decide +kernel), by decide +kernel, by decide +kernel, ⟨by decide +kernel, by decide +kernel, by decide +kernel⟩⟩
theorem mkX6_save : MkV mtX6_save 1 := ⟨List.mem_of_getElem? (i := 1392) (by decide +kernel), by decide +kernel, by decide +kernel, by decide +kernel, ⟨by decide +kernel, by decide +kernel, by decide +kernel⟩⟩
theorem lmL_202 : LkM RL 202 mtX6_save := Or.inl (by decide +kernel)
theorem ltL_203 : Cond.methodLink RL 203 (mY mtL_restore) ∈ lw_tbl := by decide +kernel
theorem mt_L_restore : MkT mtL_restore [(0, 9, 12, 28), (0, 9, 15, 15)] 3 := ⟨List.mem_of_getElem? (i := 999) (by decide +kernel), by decide +kernel, by decide +kernel, ⟨by decide +kernel, by decide +kernel, by decide +kernel⟩⟩
theorem mkX6_restore : MkV mtX6_restore 1 := ⟨List.mem_of_getElem? (i := 1396) (by decide +kernel), by decide +kernel, by decide +kernel, by decide +kernel, ⟨by decide +kernel, by decide +kernel, by decide +kernel⟩⟩
theorem lmL_205 : LkM RL 205 mtX6_restore := Or.inl (by decide +kernel)
