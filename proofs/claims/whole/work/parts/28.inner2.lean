-- HOW ct_in fI
-- HOW ct_fails fI
-- HOW ct_of fI
-- HOW ct_ofBoat fI
-- HOW ct_layBoat fV
-- HOW ct_isLight fI
-- HOW ct_isBoat fI
-- HOW ct_isPlace fI
-- HOW ct_bright fI
-- HOW ct_worth fI
-- HOW ct_serves fI
-- HOW ct_best fI
-- HOW ct_sails fV
-- HOW ct_drops fV
-- HOW ct_wished fI
-- HOW ct_hands fV
-- HOW ct_wishes fV
-- HOW ct_finds fV
-- HOW ct_goesOn fV
-- HOW ct_goesTick fV
-- HOW ct_goesBy fI
-- HOW ct_putAside fV
-- HOW ct_takeBack fV
-- HOW ct_isLamp fI
-- HOW ct_addsLight fI
-- HOW ct_actsLight fI
-- HOW ct_addsBoat fI
-- HOW ct_actsBoat fI
-- HOW ct_actsSteer fI
-- HOW ct_canTalk fI
-- HOW ct_actsTalk fI
-- HOW ct_actsLean fI
-- HOW ct_actsDim fI
-- HOW ct_mostOf fI
-- HOW ct_isSetting fI
-- HOW ct_actsSet fI
-- HOW ct_actsTicks fI
-- HOW ct_boatsThat fI
-- HOW ct_servedBy fI
-- HOW ct_begins fV
-- HOW ct_tellsAbout fI
-- HOW ct_about fM
-- HOW ct_lightOf fM
-- HOW ct_boatOf fM
-- HOW ct_brightness fM
-- HOW ct_bestAt fM
-- HOW ct_setting fM
-- HOW ct_saves fV
-- HOW ct_light fM
-- HOW ct_boat fM
-- HOW ct_steer fM
-- HOW ct_talk fM
-- HOW ct_lean fM
-- HOW ct_dim fM
-- HOW ct_set fM
-- HOW ct_ticks fM
-- HOW ct_undo fM
-- HOW ct_save fM
-- HOW ct_restore fM
-- HOW ct_bringsBy fI
-- HOW ct_ifMargin fM
-- HOW ct_held fI
-- HOW ct_room fI
-- HOW ct_dark fI
-- HOW ct_turns fV
-- HOW ct_simulate fM
-- HOW ct_border fM
-- HOW ct_handedIn fM
-- HOW ct_bestMargin fM
-- HOW ct_thrown fI
-- HOW ct_sign fI
-- HOW ct_number fI
-- HOW ct_carriesLight fI
-- HOW ct_carries fI
-- HOW ct_isCommand fI
-- HOW ct_append fM
-- HOW ct_clearText fM
-- HOW ct_readsAll fV
-- HOW ct_errorPosition fI
-- HOW ct_load rI
-- HOW ct_pair fI
-- HOW ct_laysFigures fV
-- HOW ct_succeeds fI
-- HOW ct_runScript rI
-- HOW cl_isPlace fI
-- HOW cl_isSpeed fI
-- HOW cl_isStrength fI
-- HOW cl_isTickCount fI
-- HOW cl_isSetting fI
-- HOW cl_isSlot fI
-- HOW cl_isSettingValue fI
-- HOW cl_shown fI
-- HOW cl_withoutGroups fL
-- HOW cl_lbegin fV
-- HOW cl_lcopy fV
-- HOW cl_bcopy fV
-- HOW cl_lnum fI
-- HOW cl_bnum fI
-- HOW cl_bright fI
-- HOW cl_worth fI
-- HOW cl_bitCount fI
-- HOW cl_servedCount fI
-- HOW cl_takesHandedOn fI
-- HOW cl_takesOthers fI
-- HOW cl_bbegin fV
-- HOW cl_move fV
-- HOW cl_wishFor fV
-- HOW cl_lightR fR
-- HOW cl_lightN fR
-- HOW cl_boatR fR
-- HOW cl_boatN fR
-- HOW cl_setR fI
-- HOW cl_lightAt fR
-- HOW cl_lightAtNo fR
-- HOW cl_boatAt fR
-- HOW cl_boatAtNo fR
-- HOW cl_settingOf fI
-- HOW cl_servedBoats fI
-- HOW cl_talkingBoats fI
-- HOW cl_numberOf fI
-- HOW cl_brightest fI
-- HOW cl_isDark fI
-- HOW cl_freePlaces fI
-- HOW cl_isServing fI
-- HOW cl_isServingAtLeast fI
-- HOW cl_isBoatAt fI
-- HOW cl_lightFault fI
-- HOW cl_boatFault fI
-- HOW cl_steerFault fI
-- HOW cl_dimFault fI
-- HOW cl_leanFault fI
-- HOW cl_talkFault fI
-- HOW cl_putSpeed rI
-- HOW cl_putTalk rI
-- HOW cl_putLeaning rI
-- HOW cl_putStrength rI
-- HOW cl_putSetting rI
-- HOW cl_addLight rI
-- HOW cl_addBoat rI
-- HOW cl_tryLight rI
-- HOW cl_tryBoat rI
-- HOW cl_trySteer rI
-- HOW cl_tryTalk rI
-- HOW cl_tryLean rI
-- HOW cl_tryDim rI
-- HOW cl_trySet rI
-- HOW cl_serve rV
-- HOW cl_lose rV
-- HOW cl_bestWish fI
-- HOW cl_seekKeeper rV
-- HOW cl_ask rV
-- HOW cl_setW fI
-- HOW cl_sail rV
-- HOW cl_pass rV
-- HOW cl_reset rV
-- HOW cl_copyFrom rV
-- HOW cl_stateAt fR
-- HOW cl_slotAt fR
-- HOW cl_hasStates fI
-- HOW cl_mreset rV
-- HOW cl_remember rV
-- HOW cl_takeBack rI
-- HOW cl_isKept fI
-- HOW cl_keep rV
-- HOW cl_bring rV
-- HOW cl_isFull fI
-- HOW cl_add fI
-- HOW cl_empty fI
-- HOW cl_hasMore fI
-- HOW cl_signAt fI
-- HOW cl_number fI
-- HOW cl_formOf fR
-- HOW cl_readNumber fI
-- HOW cl_formY fR
-- HOW cl_formN fR
-- HOW cl_readHead fI
-- HOW cl_readCommand rI
-- HOW cl_errorPlace rI
-- HOW cl_gained fI
-- HOW cl_tryMargin rV
-- HOW cl_until rI
-- HOW cl_dark fI
-- HOW cl_room fI
-- HOW cl_takeTurn rV
-- HOW cl_runCommand rI
-- HOW cl_obey rI
def mtX5_runCommand : Mt := (yX5_runCommand, cX5_runCommand, 4, (some .boolean), 6, 132, 0, 0)
theorem kX5_runCommand_0 : Dk mtX5_runCommand 0 (.iload_n 1) 1 1 := ⟨by decide +kernel, rfl⟩
theorem kX5_runCommand_1 : Dk mtX5_runCommand 1 (.sipush 10000) 3 4 := ⟨by decide +kernel, rfl⟩
theorem kX5_runCommand_4 : Dk mtX5_runCommand 4 (.idiv) 1 5 := ⟨by decide +kernel, rfl⟩
theorem kX5_runCommand_5 : Dk mtX5_runCommand 5 (.bipush 10) 2 7 := ⟨by decide +kernel, rfl⟩
theorem kX5_runCommand_7 : Dk mtX5_runCommand 7 (.irem) 1 8 := ⟨by decide +kernel, rfl⟩
theorem kX5_runCommand_8 : Dk mtX5_runCommand 8 (.istore_n 2) 1 9 := ⟨by decide +kernel, rfl⟩
theorem kX5_runCommand_9 : Dk mtX5_runCommand 9 (.iload_n 1) 1 10 := ⟨by decide +kernel, rfl⟩
theorem kX5_runCommand_10 : Dk mtX5_runCommand 10 (.sipush 10000) 3 13 := ⟨by decide +kernel, rfl⟩
theorem kX5_runCommand_13 : Dk mtX5_runCommand 13 (.irem) 1 14 := ⟨by decide +kernel, rfl⟩
theorem kX5_runCommand_14 : Dk mtX5_runCommand 14 (.istore_n 3) 1 15 := ⟨by decide +kernel, rfl⟩
theorem kX5_runCommand_15 : Dk mtX5_runCommand 15 (.iload_n 1) 1 16 := ⟨by decide +kernel, rfl⟩
theorem kX5_runCommand_16 : Dk mtX5_runCommand 16 (.ldc_w 283) 3 19 := ⟨by decide +kernel, rfl⟩
theorem kX5_runCommand_19 : Dk mtX5_runCommand 19 (.idiv) 1 20 := ⟨by decide +kernel, rfl⟩
theorem kX5_runCommand_20 : Dk mtX5_runCommand 20 (.tableswitch 189 1 9 #[52, 75, 88, 98, 108, 121, 131, 141, 165]) 52 72 := ⟨by decide +kernel, rfl⟩
theorem kX5_runCommand_72 : Dk mtX5_runCommand 72 (.iload_n 2) 1 73 := ⟨by decide +kernel, rfl⟩
theorem kX5_runCommand_73 : Dk mtX5_runCommand 73 (.ifCond .ne 10) 3 76 := ⟨by decide +kernel, rfl⟩
theorem kX5_runCommand_76 : Dk mtX5_runCommand 76 (.iload_n 3) 1 77 := ⟨by decide +kernel, rfl⟩
theorem kX5_runCommand_77 : Dk mtX5_runCommand 77 (.invokestatic 217) 3 80 := ⟨by decide +kernel, rfl⟩
theorem kX5_runCommand_80 : Dk mtX5_runCommand 80 (.ifCond .ne 5) 3 83 := ⟨by decide +kernel, rfl⟩
theorem kX5_runCommand_83 : Dk mtX5_runCommand 83 (.iconst 0) 1 84 := ⟨by decide +kernel, rfl⟩
theorem kX5_runCommand_84 : Dk mtX5_runCommand 84 (.ireturn) 1 85 := ⟨by decide +kernel, rfl⟩
theorem kX5_runCommand_85 : Dk mtX5_runCommand 85 (.aload_n 0) 1 86 := ⟨by decide +kernel, rfl⟩
theorem kX5_runCommand_86 : Dk mtX5_runCommand 86 (.getfield 23) 3 89 := ⟨by decide +kernel, rfl⟩
theorem kX5_runCommand_89 : Dk mtX5_runCommand 89 (.iload_n 3) 1 90 := ⟨by decide +kernel, rfl⟩
theorem kX5_runCommand_90 : Dk mtX5_runCommand 90 (.invokevirtual 102) 3 93 := ⟨by decide +kernel, rfl⟩
theorem kX5_runCommand_93 : Dk mtX5_runCommand 93 (.iconst 1) 1 94 := ⟨by decide +kernel, rfl⟩
theorem kX5_runCommand_94 : Dk mtX5_runCommand 94 (.ireturn) 1 95 := ⟨by decide +kernel, rfl⟩
theorem kX5_runCommand_95 : Dk mtX5_runCommand 95 (.aload_n 0) 1 96 := ⟨by decide +kernel, rfl⟩
theorem kX5_runCommand_96 : Dk mtX5_runCommand 96 (.getfield 23) 3 99 := ⟨by decide +kernel, rfl⟩
theorem kX5_runCommand_99 : Dk mtX5_runCommand 99 (.iload_n 2) 1 100 := ⟨by decide +kernel, rfl⟩
theorem kX5_runCommand_100 : Dk mtX5_runCommand 100 (.iload_n 3) 1 101 := ⟨by decide +kernel, rfl⟩
theorem kX5_runCommand_101 : Dk mtX5_runCommand 101 (.bipush 6) 2 103 := ⟨by decide +kernel, rfl⟩
theorem kX5_runCommand_103 : Dk mtX5_runCommand 103 (.isub) 1 104 := ⟨by decide +kernel, rfl⟩
theorem kX5_runCommand_104 : Dk mtX5_runCommand 104 (.invokevirtual 96) 3 107 := ⟨by decide +kernel, rfl⟩
theorem kX5_runCommand_107 : Dk mtX5_runCommand 107 (.ireturn) 1 108 := ⟨by decide +kernel, rfl⟩
theorem kX5_runCommand_108 : Dk mtX5_runCommand 108 (.aload_n 0) 1 109 := ⟨by decide +kernel, rfl⟩
theorem kX5_runCommand_109 : Dk mtX5_runCommand 109 (.getfield 23) 3 112 := ⟨by decide +kernel, rfl⟩
theorem kX5_runCommand_112 : Dk mtX5_runCommand 112 (.iload_n 2) 1 113 := ⟨by decide +kernel, rfl⟩
theorem kX5_runCommand_113 : Dk mtX5_runCommand 113 (.iload_n 3) 1 114 := ⟨by decide +kernel, rfl⟩
theorem kX5_runCommand_114 : Dk mtX5_runCommand 114 (.invokevirtual 93) 3 117 := ⟨by decide +kernel, rfl⟩
theorem kX5_runCommand_117 : Dk mtX5_runCommand 117 (.ireturn) 1 118 := ⟨by decide +kernel, rfl⟩
theorem kX5_runCommand_118 : Dk mtX5_runCommand 118 (.aload_n 0) 1 119 := ⟨by decide +kernel, rfl⟩
theorem kX5_runCommand_119 : Dk mtX5_runCommand 119 (.getfield 23) 3 122 := ⟨by decide +kernel, rfl⟩
theorem kX5_runCommand_122 : Dk mtX5_runCommand 122 (.iload_n 2) 1 123 := ⟨by decide +kernel, rfl⟩
theorem kX5_runCommand_123 : Dk mtX5_runCommand 123 (.iload_n 3) 1 124 := ⟨by decide +kernel, rfl⟩
theorem kX5_runCommand_124 : Dk mtX5_runCommand 124 (.invokevirtual 99) 3 127 := ⟨by decide +kernel, rfl⟩
theorem kX5_runCommand_127 : Dk mtX5_runCommand 127 (.ireturn) 1 128 := ⟨by decide +kernel, rfl⟩
theorem kX5_runCommand_128 : Dk mtX5_runCommand 128 (.aload_n 0) 1 129 := ⟨by decide +kernel, rfl⟩
theorem kX5_runCommand_129 : Dk mtX5_runCommand 129 (.getfield 23) 3 132 := ⟨by decide +kernel, rfl⟩
theorem kX5_runCommand_132 : Dk mtX5_runCommand 132 (.iload_n 2) 1 133 := ⟨by decide +kernel, rfl⟩
theorem kX5_runCommand_133 : Dk mtX5_runCommand 133 (.iload_n 3) 1 134 := ⟨by decide +kernel, rfl⟩
theorem kX5_runCommand_134 : Dk mtX5_runCommand 134 (.bipush 30) 2 136 := ⟨by decide +kernel, rfl⟩
theorem kX5_runCommand_136 : Dk mtX5_runCommand 136 (.isub) 1 137 := ⟨by decide +kernel, rfl⟩
theorem kX5_runCommand_137 : Dk mtX5_runCommand 137 (.invokevirtual 284) 3 140 := ⟨by decide +kernel, rfl⟩
theorem kX5_runCommand_140 : Dk mtX5_runCommand 140 (.ireturn) 1 141 := ⟨by decide +kernel, rfl⟩
theorem kX5_runCommand_141 : Dk mtX5_runCommand 141 (.aload_n 0) 1 142 := ⟨by decide +kernel, rfl⟩
theorem kX5_runCommand_142 : Dk mtX5_runCommand 142 (.getfield 23) 3 145 := ⟨by decide +kernel, rfl⟩
theorem kX5_runCommand_145 : Dk mtX5_runCommand 145 (.iload_n 3) 1 146 := ⟨by decide +kernel, rfl⟩
theorem kX5_runCommand_146 : Dk mtX5_runCommand 146 (.iload_n 2) 1 147 := ⟨by decide +kernel, rfl⟩
theorem kX5_runCommand_147 : Dk mtX5_runCommand 147 (.invokevirtual 287) 3 150 := ⟨by decide +kernel, rfl⟩
theorem kX5_runCommand_150 : Dk mtX5_runCommand 150 (.ireturn) 1 151 := ⟨by decide +kernel, rfl⟩
theorem kX5_runCommand_151 : Dk mtX5_runCommand 151 (.aload_n 0) 1 152 := ⟨by decide +kernel, rfl⟩
theorem kX5_runCommand_152 : Dk mtX5_runCommand 152 (.getfield 23) 3 155 := ⟨by decide +kernel, rfl⟩
theorem kX5_runCommand_155 : Dk mtX5_runCommand 155 (.iload_n 2) 1 156 := ⟨by decide +kernel, rfl⟩
theorem kX5_runCommand_156 : Dk mtX5_runCommand 156 (.iload_n 3) 1 157 := ⟨by decide +kernel, rfl⟩
theorem kX5_runCommand_157 : Dk mtX5_runCommand 157 (.invokevirtual 290) 3 160 := ⟨by decide +kernel, rfl⟩
theorem kX5_runCommand_160 : Dk mtX5_runCommand 160 (.ireturn) 1 161 := ⟨by decide +kernel, rfl⟩
theorem kX5_runCommand_161 : Dk mtX5_runCommand 161 (.iload_n 3) 1 162 := ⟨by decide +kernel, rfl⟩
theorem kX5_runCommand_162 : Dk mtX5_runCommand 162 (.bipush 100) 2 164 := ⟨by decide +kernel, rfl⟩
theorem kX5_runCommand_164 : Dk mtX5_runCommand 164 (.if_icmp .ge 19) 3 167 := ⟨by decide +kernel, rfl⟩
theorem kX5_runCommand_167 : Dk mtX5_runCommand 167 (.aload_n 0) 1 168 := ⟨by decide +kernel, rfl⟩
theorem kX5_runCommand_168 : Dk mtX5_runCommand 168 (.getfield 23) 3 171 := ⟨by decide +kernel, rfl⟩
theorem kX5_runCommand_171 : Dk mtX5_runCommand 171 (.iload_n 2) 1 172 := ⟨by decide +kernel, rfl⟩
theorem kX5_runCommand_172 : Dk mtX5_runCommand 172 (.invokevirtual 108) 3 175 := ⟨by decide +kernel, rfl⟩
theorem kX5_runCommand_175 : Dk mtX5_runCommand 175 (.iload_n 3) 1 176 := ⟨by decide +kernel, rfl⟩
theorem kX5_runCommand_176 : Dk mtX5_runCommand 176 (.if_icmp .gt 7) 3 179 := ⟨by decide +kernel, rfl⟩
theorem kX5_runCommand_179 : Dk mtX5_runCommand 179 (.iconst 1) 1 180 := ⟨by decide +kernel, rfl⟩
theorem kX5_runCommand_180 : Dk mtX5_runCommand 180 (.goto 4) 3 183 := ⟨by decide +kernel, rfl⟩
theorem kX5_runCommand_183 : Dk mtX5_runCommand 183 (.iconst 0) 1 184 := ⟨by decide +kernel, rfl⟩
theorem kX5_runCommand_184 : Dk mtX5_runCommand 184 (.ireturn) 1 185 := ⟨by decide +kernel, rfl⟩
theorem kX5_runCommand_185 : Dk mtX5_runCommand 185 (.iload_n 3) 1 186 := ⟨by decide +kernel, rfl⟩
theorem kX5_runCommand_186 : Dk mtX5_runCommand 186 (.bipush 10) 2 188 := ⟨by decide +kernel, rfl⟩
theorem kX5_runCommand_188 : Dk mtX5_runCommand 188 (.if_icmp .ge 19) 3 191 := ⟨by decide +kernel, rfl⟩
theorem kX5_runCommand_191 : Dk mtX5_runCommand 191 (.aload_n 0) 1 192 := ⟨by decide +kernel, rfl⟩
theorem kX5_runCommand_192 : Dk mtX5_runCommand 192 (.getfield 23) 3 195 := ⟨by decide +kernel, rfl⟩
theorem kX5_runCommand_195 : Dk mtX5_runCommand 195 (.iload_n 2) 1 196 := ⟨by decide +kernel, rfl⟩
theorem kX5_runCommand_196 : Dk mtX5_runCommand 196 (.iload_n 3) 1 197 := ⟨by decide +kernel, rfl⟩
theorem kX5_runCommand_197 : Dk mtX5_runCommand 197 (.invokevirtual 293) 3 200 := ⟨by decide +kernel, rfl⟩
theorem kX5_runCommand_200 : Dk mtX5_runCommand 200 (.ifCond .eq 7) 3 203 := ⟨by decide +kernel, rfl⟩
theorem kX5_runCommand_203 : Dk mtX5_runCommand 203 (.iconst 1) 1 204 := ⟨by decide +kernel, rfl⟩
theorem kX5_runCommand_204 : Dk mtX5_runCommand 204 (.goto 4) 3 207 := ⟨by decide +kernel, rfl⟩
theorem kX5_runCommand_207 : Dk mtX5_runCommand 207 (.iconst 0) 1 208 := ⟨by decide +kernel, rfl⟩
theorem kX5_runCommand_208 : Dk mtX5_runCommand 208 (.ireturn) 1 209 := ⟨by decide +kernel, rfl⟩
theorem kX5_runCommand_209 : Dk mtX5_runCommand 209 (.iconst 0) 1 210 := ⟨by decide +kernel, rfl⟩
theorem kX5_runCommand_210 : Dk mtX5_runCommand 210 (.ireturn) 1 211 := ⟨by decide +kernel, rfl⟩
theorem lcX5_283 : Cond.constant RX5 283 (100000) ∈ lw_tbl := by decide +kernel
theorem lmX5_217 : LkM RX5 217 mtX5_isTickCount := Or.inl (by decide +kernel)
theorem mkX5_isTickCount : MkS mtX5_isTickCount 1 := ⟨List.mem_of_getElem? (i := 855) (by decide +kernel), by decide +kernel, by decide +kernel, ⟨by decide +kernel, by decide +kernel, by decide +kernel⟩⟩
theorem lmX5_99 : LkM RX5 99 mtX1_trySet := Or.inl (by decide +kernel)
theorem mkX1_trySet : MkV mtX1_trySet 2 := ⟨List.mem_of_getElem? (i := 582) (by decide +kernel), by decide +kernel, by decide +kernel, by decide +kernel, ⟨by decide +kernel, by decide +kernel, by decide +kernel⟩⟩
theorem lmX5_287 : LkM RX5 287 mtX1_isServing := Or.inl (by decide +kernel)
theorem mkX1_isServing : MkV mtX1_isServing 2 := ⟨List.mem_of_getElem? (i := 946) (by decide +kernel), by decide +kernel, by decide +kernel, by decide +kernel, ⟨by decide +kernel, by decide +kernel, by decide +kernel⟩⟩
theorem lmX5_290 : LkM RX5 290 mtX1_isBoatAt := Or.inl (by decide +kernel)
theorem mkX1_isBoatAt : MkV mtX1_isBoatAt 2 := ⟨List.mem_of_getElem? (i := 950) (by decide +kernel), by decide +kernel, by decide +kernel, by decide +kernel, ⟨by decide +kernel, by decide +kernel, by decide +kernel⟩⟩
theorem lmX5_293 : LkM RX5 293 mtX1_isServingAtLeast := Or.inl (by decide +kernel)
theorem mkX1_isServingAtLeast : MkV mtX1_isServingAtLeast 2 := ⟨List.mem_of_getElem? (i := 954) (by decide +kernel), by decide +kernel, by decide +kernel, by decide +kernel, ⟨by decide +kernel, by decide +kernel, by decide +kernel⟩⟩
set_option maxHeartbeats 4000000 in
set_option maxRecDepth 100000 in
theorem cl_runCommand {l : Launch} {w : Wd} {sg : Sg} (hWr : Wr w) {x : Nat} {g : Gs} (hR : Rel sg (x + 22) g) (hI : Inv g) (old : Gs) {m : Nat} (hm : m < 10 ^ 6) : M l mtX5_runCommand w [vR (some (5, 0, x)), vI (nI m)] sg (rI (fun r sg2 => r = R_suc g (figN m old 6) (m / 100000) ∧ Rel sg2 (x + 22) (F_suc g (figN m old 6) (m / 100000)) ∧ Fr (x + 22) sg sg2)) := by
  refine M_of [some (vR (some (5, 0, x))), some (vI (nI m)), none, none] rfl (Nat.le_of_ble_eq_true rfl) (by decide +kernel) ?_
  intro p_ e_ s_ m_ args_ below_ meth_ c_ hC hO
  refine V_iload_n hC kX5_runCommand_0 rfl ?_
  refine V_sipush hC (10000) kX5_runCommand_1 (by decide) ?_
  refine V_idiv hC kX5_runCommand_4 (by decide) ?_
  refine V_bipush hC (10) kX5_runCommand_5 (by decide) ?_
  refine V_irem hC kX5_runCommand_7 (by decide) ?_
  refine V_nameI (fun nb e_nb => ?_)
  refine V_istore_n hC [some _, some _, some _, none] kX5_runCommand_8 rfl (Nat.le_of_ble_eq_true rfl) ?_
  replace e_nb : nb = (nI (m / 10000 % 10)) := e_nb.trans (by rw [show (10000 : Int32) = nI 10000 from rfl, show (10 : Int32) = nI 10 from rfl, pk_div (by omega) (by decide) (by decide), pk_rem (by omega) (by decide) (by decide)])
  subst e_nb
  refine V_iload_n hC kX5_runCommand_9 rfl ?_
  refine V_sipush hC (10000) kX5_runCommand_10 (by decide) ?_
  refine V_irem hC kX5_runCommand_13 (by decide) ?_
  refine V_nameI (fun vl e_vl => ?_)
  refine V_istore_n hC [some _, some _, some _, some _] kX5_runCommand_14 rfl (Nat.le_of_ble_eq_true rfl) ?_
  replace e_vl : vl = (nI (m % 10000)) := e_vl.trans (by rw [show (10000 : Int32) = nI 10000 from rfl, pk_rem (by omega) (by decide) (by decide)])
  subst e_vl
  refine V_iload_n hC kX5_runCommand_15 rfl ?_
  refine V_ldcw hC lcX5_283 kX5_runCommand_16 ?_
  refine V_idiv hC kX5_runCommand_19 (by decide) ?_
  have ex : nI m / 100000 = nI (m / 100000) := by rw [show (100000 : Int32) = nI 100000 from rfl, pk_div (by omega) (by decide) (by decide)]
  have hdn : inn (nI (m / 10000 % 10)) 0 9 := ⟨nI_pos' (by omega), nI_le (b := 9) (by omega) (by decide)⟩
  rcases (show m / 100000 = 0 ∨ m / 100000 = 1 ∨ m / 100000 = 2 ∨ m / 100000 = 3 ∨ m / 100000 = 4 ∨ m / 100000 = 5 ∨ m / 100000 = 6 ∨ m / 100000 = 7 ∨ m / 100000 = 8 ∨ m / 100000 = 9 by omega) with hDn | hDn | hDn | hDn | hDn | hDn | hDn | hDn | hDn | hDn
  · rw [hDn]
    rw [hDn] at ex
    refine V_tabOut hC 209 kX5_runCommand_20 (Or.inl (by rw [ex]; decide)) (by decide) ?_
    refine V_iconst hC (0) kX5_runCommand_209 (by decide) ?_
    refine V_iretz hC rfl kX5_runCommand_210 ?_ ?_
    · first
    | exact Or.inl rfl
    | exact Or.inr rfl
    | exact b01_z _
    | (rw [h104.1]; exact b01_z _)
    | (rw [h114.1]; exact b01_z _)
    | (rw [h124.1]; exact b01_z _)
    | (rw [h137.1]; exact b01_z _)
    | (rw [h116.1]; exact b01_z _)
    | (rw [h143.1]; exact b01_z _)
    | (rw [h167.1]; exact b01_z _)
    | (rw [h194.1]; exact b01_z _)
    | (rw [h211.1]; exact b01_z _)
    · exact ⟨0, by with_reducible rfl, rfl, hR, Fr.rf _ _⟩
  · rw [hDn]
    rw [hDn] at ex
    refine V_tabIn hC (52) 72 kX5_runCommand_20 (by rw [ex]; decide) (by rw [ex]; decide) (by rw [ex]; rfl) (by decide) ?_
    refine V_iload_n hC kX5_runCommand_72 rfl ?_
    refine V_if_ne hC 83 kX5_runCommand_73 (by decide) (fun h73 => ?_) (fun h73 => ?_)
    · refine V_iconst hC (0) kX5_runCommand_83 (by decide) ?_
      refine V_iretz hC rfl kX5_runCommand_84 ?_ ?_
      · first
      | exact Or.inl rfl
      | exact Or.inr rfl
      | exact b01_z _
      | (rw [h104.1]; exact b01_z _)
      | (rw [h114.1]; exact b01_z _)
      | (rw [h124.1]; exact b01_z _)
      | (rw [h137.1]; exact b01_z _)
      | (rw [h116.1]; exact b01_z _)
      | (rw [h143.1]; exact b01_z _)
      | (rw [h167.1]; exact b01_z _)
      | (rw [h194.1]; exact b01_z _)
      | (rw [h211.1]; exact b01_z _)
      · obtain ⟨r1, r2⟩ := rcm_1 g (m := m) old hI
        first
        | (have hno : ¬ ((nI (m / 10000 % 10)) = 0 ∧ inn (nI (m % 10000)) 1 60) := fun z => h73 z.1
           exact ⟨_, by with_reducible rfl, by rw [r1, b01_f hno], by rw [r2, if_neg hno]; exact hR, Fr.rf _ _⟩)
        | (have hno : ¬ ((nI (m / 10000 % 10)) = 0 ∧ inn (nI (m % 10000)) 1 60) := fun z => b01e.mp h80 z.2
           exact ⟨_, by with_reducible rfl, by rw [r1, b01_f hno], by rw [r2, if_neg hno]; exact hR, Fr.rf _ _⟩)
        
    · refine V_iload_n hC kX5_runCommand_76 rfl ?_
      refine V_cS_fI hC (cl_isTickCount hWr _) mkX5_isTickCount lmX5_217 kX5_runCommand_77 rfl rfl (Nat.le_of_ble_eq_true rfl) ⟨(Nat.le_of_ble_eq_true rfl), (Nat.le_of_ble_eq_true rfl)⟩ ⟨rfl, rfl⟩ ⟨(Nat.le_of_ble_eq_true rfl), (Nat.le_of_ble_eq_true rfl)⟩ ?_
      refine V_if_ne hC 85 kX5_runCommand_80 (by decide) (fun h80 => ?_) (fun h80 => ?_)
      · refine V_aload_n hC kX5_runCommand_85 rfl ?_
        refine V_getR hC hWr 5 2 lfX5_23 kX5_runCommand_86 (Nat.le_of_ble_eq_true rfl) (Nat.le_of_ble_eq_true rfl) rfl ?_
        refine V_iload_n hC kX5_runCommand_89 rfl ?_
        refine V_cV_rV hC (cl_pass hWr hR hI (N := m % 10000) (by have q := nI_le_M (by omega) (b01n.mp h80).2; have e : (60 : Int32).toInt = 60 := rfl; omega)) mkX1_pass lmX5_102 kX5_runCommand_90 (Nat.le_of_ble_eq_true rfl) rfl rfl rfl (Nat.le_of_ble_eq_true rfl) ⟨(Nat.le_of_ble_eq_true rfl), (Nat.le_of_ble_eq_true rfl)⟩ ⟨rfl, rfl⟩ ⟨(Nat.le_of_ble_eq_true rfl), (Nat.le_of_ble_eq_true rfl)⟩ (fun g90 h90 => ?_)
        refine V_iconst hC (1) kX5_runCommand_93 (by decide) ?_
        refine V_iretz hC rfl kX5_runCommand_94 ?_ ?_
        · first
        | exact Or.inl rfl
        | exact Or.inr rfl
        | exact b01_z _
        | (rw [h104.1]; exact b01_z _)
        | (rw [h114.1]; exact b01_z _)
        | (rw [h124.1]; exact b01_z _)
        | (rw [h137.1]; exact b01_z _)
        | (rw [h116.1]; exact b01_z _)
        | (rw [h143.1]; exact b01_z _)
        | (rw [h167.1]; exact b01_z _)
        | (rw [h194.1]; exact b01_z _)
        | (rw [h211.1]; exact b01_z _)
        · obtain ⟨r1, r2⟩ := rcm_1 g (m := m) old hI
          first
          | (have hyes : (nI (m / 10000 % 10)) = 0 ∧ inn (nI (m % 10000)) 1 60 := ⟨h73, b01n.mp h80⟩
             exact ⟨_, by with_reducible rfl, by rw [r1, b01_t hyes], by rw [r2, if_pos hyes]; exact h90.1, h90.2⟩)
      · refine V_iconst hC (0) kX5_runCommand_83 (by decide) ?_
        refine V_iretz hC rfl kX5_runCommand_84 ?_ ?_
        · first
        | exact Or.inl rfl
        | exact Or.inr rfl
        | exact b01_z _
        | (rw [h104.1]; exact b01_z _)
        | (rw [h114.1]; exact b01_z _)
        | (rw [h124.1]; exact b01_z _)
        | (rw [h137.1]; exact b01_z _)
        | (rw [h116.1]; exact b01_z _)
        | (rw [h143.1]; exact b01_z _)
        | (rw [h167.1]; exact b01_z _)
        | (rw [h194.1]; exact b01_z _)
        | (rw [h211.1]; exact b01_z _)
        · obtain ⟨r1, r2⟩ := rcm_1 g (m := m) old hI
          first
          | (have hno : ¬ ((nI (m / 10000 % 10)) = 0 ∧ inn (nI (m % 10000)) 1 60) := fun z => h73 z.1
             exact ⟨_, by with_reducible rfl, by rw [r1, b01_f hno], by rw [r2, if_neg hno]; exact hR, Fr.rf _ _⟩)
          | (have hno : ¬ ((nI (m / 10000 % 10)) = 0 ∧ inn (nI (m % 10000)) 1 60) := fun z => b01e.mp h80 z.2
             exact ⟨_, by with_reducible rfl, by rw [r1, b01_f hno], by rw [r2, if_neg hno]; exact hR, Fr.rf _ _⟩)
          
  · rw [hDn]
    rw [hDn] at ex
    refine V_tabIn hC (75) 95 kX5_runCommand_20 (by rw [ex]; decide) (by rw [ex]; decide) (by rw [ex]; rfl) (by decide) ?_
    refine V_aload_n hC kX5_runCommand_95 rfl ?_
    refine V_getR hC hWr 5 2 lfX5_23 kX5_runCommand_96 (Nat.le_of_ble_eq_true rfl) (Nat.le_of_ble_eq_true rfl) rfl ?_
    refine V_iload_n hC kX5_runCommand_99 rfl ?_
    refine V_iload_n hC kX5_runCommand_100 rfl ?_
    refine V_bipush hC (6) kX5_runCommand_101 (by decide) ?_
    refine V_isub hC kX5_runCommand_103 ?_
    refine V_cV_rI hC (cl_trySteer hWr _ _ hR hI) mkX1_trySteer lmX5_96 kX5_runCommand_104 (Nat.le_of_ble_eq_true rfl) rfl rfl rfl (Nat.le_of_ble_eq_true rfl) ⟨(Nat.le_of_ble_eq_true rfl), (Nat.le_of_ble_eq_true rfl)⟩ ⟨rfl, rfl⟩ ⟨(Nat.le_of_ble_eq_true rfl), (Nat.le_of_ble_eq_true rfl)⟩ (fun x104 g104 h104 => ?_)
    refine V_iretz hC rfl kX5_runCommand_107 ?_ ?_
    · first
    | exact Or.inl rfl
    | exact Or.inr rfl
    | exact b01_z _
    | (rw [h104.1]; exact b01_z _)
    | (rw [h114.1]; exact b01_z _)
    | (rw [h124.1]; exact b01_z _)
    | (rw [h137.1]; exact b01_z _)
    | (rw [h116.1]; exact b01_z _)
    | (rw [h143.1]; exact b01_z _)
    | (rw [h167.1]; exact b01_z _)
    | (rw [h194.1]; exact b01_z _)
    | (rw [h211.1]; exact b01_z _)
    · obtain ⟨r1, r2⟩ := rcm_2 g (m := m) old hI
      refine ⟨_, by with_reducible rfl, ?_, ?_, h104.2.2⟩
      · rw [r1]
        exact h104.1
      · rw [r2]
        exact h104.2.1
  · rw [hDn]
    rw [hDn] at ex
    refine V_tabIn hC (88) 108 kX5_runCommand_20 (by rw [ex]; decide) (by rw [ex]; decide) (by rw [ex]; rfl) (by decide) ?_
    refine V_aload_n hC kX5_runCommand_108 rfl ?_
    refine V_getR hC hWr 5 2 lfX5_23 kX5_runCommand_109 (Nat.le_of_ble_eq_true rfl) (Nat.le_of_ble_eq_true rfl) rfl ?_
    refine V_iload_n hC kX5_runCommand_112 rfl ?_
    refine V_iload_n hC kX5_runCommand_113 rfl ?_
    refine V_cV_rI hC (cl_tryTalk hWr _ _ hR hI) mkX1_tryTalk lmX5_93 kX5_runCommand_114 (Nat.le_of_ble_eq_true rfl) rfl rfl rfl (Nat.le_of_ble_eq_true rfl) ⟨(Nat.le_of_ble_eq_true rfl), (Nat.le_of_ble_eq_true rfl)⟩ ⟨rfl, rfl⟩ ⟨(Nat.le_of_ble_eq_true rfl), (Nat.le_of_ble_eq_true rfl)⟩ (fun x114 g114 h114 => ?_)
    refine V_iretz hC rfl kX5_runCommand_117 ?_ ?_
    · first
    | exact Or.inl rfl
    | exact Or.inr rfl
    | exact b01_z _
    | (rw [h104.1]; exact b01_z _)
    | (rw [h114.1]; exact b01_z _)
    | (rw [h124.1]; exact b01_z _)
    | (rw [h137.1]; exact b01_z _)
    | (rw [h116.1]; exact b01_z _)
    | (rw [h143.1]; exact b01_z _)
    | (rw [h167.1]; exact b01_z _)
    | (rw [h194.1]; exact b01_z _)
    | (rw [h211.1]; exact b01_z _)
    · obtain ⟨r1, r2⟩ := rcm_3 g (m := m) old hI
      refine ⟨_, by with_reducible rfl, ?_, ?_, h114.2.2⟩
      · rw [r1]
        exact h114.1
      · rw [r2]
        exact h114.2.1
  · rw [hDn]
    rw [hDn] at ex
    refine V_tabIn hC (98) 118 kX5_runCommand_20 (by rw [ex]; decide) (by rw [ex]; decide) (by rw [ex]; rfl) (by decide) ?_
    refine V_aload_n hC kX5_runCommand_118 rfl ?_
    refine V_getR hC hWr 5 2 lfX5_23 kX5_runCommand_119 (Nat.le_of_ble_eq_true rfl) (Nat.le_of_ble_eq_true rfl) rfl ?_
    refine V_iload_n hC kX5_runCommand_122 rfl ?_
    refine V_iload_n hC kX5_runCommand_123 rfl ?_
    refine V_cV_rI hC (cl_trySet hWr _ _ hR hI) mkX1_trySet lmX5_99 kX5_runCommand_124 (Nat.le_of_ble_eq_true rfl) rfl rfl rfl (Nat.le_of_ble_eq_true rfl) ⟨(Nat.le_of_ble_eq_true rfl), (Nat.le_of_ble_eq_true rfl)⟩ ⟨rfl, rfl⟩ ⟨(Nat.le_of_ble_eq_true rfl), (Nat.le_of_ble_eq_true rfl)⟩ (fun x124 g124 h124 => ?_)
    refine V_iretz hC rfl kX5_runCommand_127 ?_ ?_
    · first
    | exact Or.inl rfl
    | exact Or.inr rfl
    | exact b01_z _
    | (rw [h104.1]; exact b01_z _)
    | (rw [h114.1]; exact b01_z _)
    | (rw [h124.1]; exact b01_z _)
    | (rw [h137.1]; exact b01_z _)
    | (rw [h116.1]; exact b01_z _)
    | (rw [h143.1]; exact b01_z _)
    | (rw [h167.1]; exact b01_z _)
    | (rw [h194.1]; exact b01_z _)
    | (rw [h211.1]; exact b01_z _)
    · obtain ⟨r1, r2⟩ := rcm_4 g (m := m) old hI
      refine ⟨_, by with_reducible rfl, ?_, ?_, h124.2.2⟩
      · rw [r1]
        exact h124.1
      · rw [r2]
        exact h124.2.1
  · rw [hDn]
    rw [hDn] at ex
    refine V_tabIn hC (108) 128 kX5_runCommand_20 (by rw [ex]; decide) (by rw [ex]; decide) (by rw [ex]; rfl) (by decide) ?_
    refine V_aload_n hC kX5_runCommand_128 rfl ?_
    refine V_getR hC hWr 5 2 lfX5_23 kX5_runCommand_129 (Nat.le_of_ble_eq_true rfl) (Nat.le_of_ble_eq_true rfl) rfl ?_
    refine V_iload_n hC kX5_runCommand_132 rfl ?_
    refine V_iload_n hC kX5_runCommand_133 rfl ?_
    refine V_bipush hC (30) kX5_runCommand_134 (by decide) ?_
    refine V_isub hC kX5_runCommand_136 ?_
    refine V_cV_rI hC (cl_tryLean hWr _ _ hR hI) mkX1_tryLean lmX5_284 kX5_runCommand_137 (Nat.le_of_ble_eq_true rfl) rfl rfl rfl (Nat.le_of_ble_eq_true rfl) ⟨(Nat.le_of_ble_eq_true rfl), (Nat.le_of_ble_eq_true rfl)⟩ ⟨rfl, rfl⟩ ⟨(Nat.le_of_ble_eq_true rfl), (Nat.le_of_ble_eq_true rfl)⟩ (fun x137 g137 h137 => ?_)
    refine V_iretz hC rfl kX5_runCommand_140 ?_ ?_
    · first
    | exact Or.inl rfl
    | exact Or.inr rfl
    | exact b01_z _
    | (rw [h104.1]; exact b01_z _)
    | (rw [h114.1]; exact b01_z _)
    | (rw [h124.1]; exact b01_z _)
    | (rw [h137.1]; exact b01_z _)
    | (rw [h116.1]; exact b01_z _)
    | (rw [h143.1]; exact b01_z _)
    | (rw [h167.1]; exact b01_z _)
    | (rw [h194.1]; exact b01_z _)
    | (rw [h211.1]; exact b01_z _)
    · obtain ⟨r1, r2⟩ := rcm_5 g (m := m) old hI
      refine ⟨_, by with_reducible rfl, ?_, ?_, h137.2.2⟩
      · rw [r1]
        exact h137.1
      · rw [r2]
        exact h137.2.1
  · rw [hDn]
    rw [hDn] at ex
    refine V_tabIn hC (121) 141 kX5_runCommand_20 (by rw [ex]; decide) (by rw [ex]; decide) (by rw [ex]; rfl) (by decide) ?_
    refine V_aload_n hC kX5_runCommand_141 rfl ?_
    refine V_getR hC hWr 5 2 lfX5_23 kX5_runCommand_142 (Nat.le_of_ble_eq_true rfl) (Nat.le_of_ble_eq_true rfl) rfl ?_
    refine V_iload_n hC kX5_runCommand_145 rfl ?_
    refine V_iload_n hC kX5_runCommand_146 rfl ?_
    refine V_cV_fI hC (cl_isServing hWr _ _ hR hI) mkX1_isServing lmX5_287 kX5_runCommand_147 (Nat.le_of_ble_eq_true rfl) rfl rfl rfl (Nat.le_of_ble_eq_true rfl) ⟨(Nat.le_of_ble_eq_true rfl), (Nat.le_of_ble_eq_true rfl)⟩ ⟨rfl, rfl⟩ ⟨(Nat.le_of_ble_eq_true rfl), (Nat.le_of_ble_eq_true rfl)⟩ ?_
    refine V_iretz hC rfl kX5_runCommand_150 ?_ ?_
    · first
    | exact Or.inl rfl
    | exact Or.inr rfl
    | exact b01_z _
    | (rw [h104.1]; exact b01_z _)
    | (rw [h114.1]; exact b01_z _)
    | (rw [h124.1]; exact b01_z _)
    | (rw [h137.1]; exact b01_z _)
    | (rw [h116.1]; exact b01_z _)
    | (rw [h143.1]; exact b01_z _)
    | (rw [h167.1]; exact b01_z _)
    | (rw [h194.1]; exact b01_z _)
    | (rw [h211.1]; exact b01_z _)
    · obtain ⟨r1, r2⟩ := rcm_6 g (m := m) old hI
      exact ⟨_, by with_reducible rfl, r1.symm, by rw [r2]; exact hR, Fr.rf _ _⟩
  · rw [hDn]
    rw [hDn] at ex
    refine V_tabIn hC (131) 151 kX5_runCommand_20 (by rw [ex]; decide) (by rw [ex]; decide) (by rw [ex]; rfl) (by decide) ?_
    refine V_aload_n hC kX5_runCommand_151 rfl ?_
    refine V_getR hC hWr 5 2 lfX5_23 kX5_runCommand_152 (Nat.le_of_ble_eq_true rfl) (Nat.le_of_ble_eq_true rfl) rfl ?_
    refine V_iload_n hC kX5_runCommand_155 rfl ?_
    refine V_iload_n hC kX5_runCommand_156 rfl ?_
    refine V_cV_fI hC (cl_isBoatAt hWr _ _ hR hI) mkX1_isBoatAt lmX5_290 kX5_runCommand_157 (Nat.le_of_ble_eq_true rfl) rfl rfl rfl (Nat.le_of_ble_eq_true rfl) ⟨(Nat.le_of_ble_eq_true rfl), (Nat.le_of_ble_eq_true rfl)⟩ ⟨rfl, rfl⟩ ⟨(Nat.le_of_ble_eq_true rfl), (Nat.le_of_ble_eq_true rfl)⟩ ?_
    refine V_iretz hC rfl kX5_runCommand_160 ?_ ?_
    · first
    | exact Or.inl rfl
    | exact Or.inr rfl
    | exact b01_z _
    | (rw [h104.1]; exact b01_z _)
    | (rw [h114.1]; exact b01_z _)
    | (rw [h124.1]; exact b01_z _)
    | (rw [h137.1]; exact b01_z _)
    | (rw [h116.1]; exact b01_z _)
    | (rw [h143.1]; exact b01_z _)
    | (rw [h167.1]; exact b01_z _)
    | (rw [h194.1]; exact b01_z _)
    | (rw [h211.1]; exact b01_z _)
    · obtain ⟨r1, r2⟩ := rcm_7 g (m := m) old hI
      exact ⟨_, by with_reducible rfl, r1.symm, by rw [r2]; exact hR, Fr.rf _ _⟩
  · rw [hDn]
    rw [hDn] at ex
    refine V_tabIn hC (141) 161 kX5_runCommand_20 (by rw [ex]; decide) (by rw [ex]; decide) (by rw [ex]; rfl) (by decide) ?_
    refine V_iload_n hC kX5_runCommand_161 rfl ?_
    refine V_bipush hC (100) kX5_runCommand_162 (by decide) ?_
    refine V_icmp_ge hC 183 kX5_runCommand_164 (by decide) (fun h164 => ?_) (fun h164 => ?_)
    · refine V_iconst hC (0) kX5_runCommand_183 (by decide) ?_
      refine V_iretz hC rfl kX5_runCommand_184 ?_ ?_
      · first
      | exact Or.inl rfl
      | exact Or.inr rfl
      | exact b01_z _
      | (rw [h104.1]; exact b01_z _)
      | (rw [h114.1]; exact b01_z _)
      | (rw [h124.1]; exact b01_z _)
      | (rw [h137.1]; exact b01_z _)
      | (rw [h116.1]; exact b01_z _)
      | (rw [h143.1]; exact b01_z _)
      | (rw [h167.1]; exact b01_z _)
      | (rw [h194.1]; exact b01_z _)
      | (rw [h211.1]; exact b01_z _)
      · obtain ⟨r1, r2⟩ := rcm_8 g (m := m) old hI
        first
        | (have hno : ¬ (m % 10000 < 100 ∧ F_tells g (nI (m / 10000 % 10)) ≤ (nI (m % 10000))) := fun z => nI_ge (b := 100) z.1 (by decide) h164
           exact ⟨_, by with_reducible rfl, by rw [r1, b01_f hno], by rw [r2]; exact hR, Fr.rf _ _⟩)
        | (have hno : ¬ (m % 10000 < 100 ∧ F_tells g (nI (m / 10000 % 10)) ≤ (nI (m % 10000))) := fun z => absurd z.2 (Int32.not_le.mpr h176)
           exact ⟨_, by with_reducible rfl, by rw [r1, b01_f hno], by rw [r2]; exact hR, Fr.rf _ _⟩)
        | (have hyes : m % 10000 < 100 ∧ F_tells g (nI (m / 10000 % 10)) ≤ (nI (m % 10000)) := ⟨Classical.byContradiction (fun z => h164 (nI_le (a := 100) (by omega) (by omega))), Int32.not_lt.mp h176⟩
           exact ⟨_, by with_reducible rfl, by rw [r1, b01_t hyes], by rw [r2]; exact hR, Fr.rf _ _⟩)
    · refine V_aload_n hC kX5_runCommand_167 rfl ?_
      refine V_getR hC hWr 5 2 lfX5_23 kX5_runCommand_168 (Nat.le_of_ble_eq_true rfl) (Nat.le_of_ble_eq_true rfl) rfl ?_
      refine V_iload_n hC kX5_runCommand_171 rfl ?_
      refine V_cV_fI hC (cl_numberOf hWr _ hdn hR hI) mkX1_numberOf lmX5_108 kX5_runCommand_172 (Nat.le_of_ble_eq_true rfl) rfl rfl rfl (Nat.le_of_ble_eq_true rfl) ⟨(Nat.le_of_ble_eq_true rfl), (Nat.le_of_ble_eq_true rfl)⟩ ⟨rfl, rfl⟩ ⟨(Nat.le_of_ble_eq_true rfl), (Nat.le_of_ble_eq_true rfl)⟩ ?_
      refine V_iload_n hC kX5_runCommand_175 rfl ?_
      refine V_icmp_gt hC 183 kX5_runCommand_176 (by decide) (fun h176 => ?_) (fun h176 => ?_)
      · refine V_iconst hC (0) kX5_runCommand_183 (by decide) ?_
        refine V_iretz hC rfl kX5_runCommand_184 ?_ ?_
        · first
        | exact Or.inl rfl
        | exact Or.inr rfl
        | exact b01_z _
        | (rw [h104.1]; exact b01_z _)
        | (rw [h114.1]; exact b01_z _)
        | (rw [h124.1]; exact b01_z _)
        | (rw [h137.1]; exact b01_z _)
        | (rw [h116.1]; exact b01_z _)
        | (rw [h143.1]; exact b01_z _)
        | (rw [h167.1]; exact b01_z _)
        | (rw [h194.1]; exact b01_z _)
        | (rw [h211.1]; exact b01_z _)
        · obtain ⟨r1, r2⟩ := rcm_8 g (m := m) old hI
          first
          | (have hno : ¬ (m % 10000 < 100 ∧ F_tells g (nI (m / 10000 % 10)) ≤ (nI (m % 10000))) := fun z => nI_ge (b := 100) z.1 (by decide) h164
             exact ⟨_, by with_reducible rfl, by rw [r1, b01_f hno], by rw [r2]; exact hR, Fr.rf _ _⟩)
          | (have hno : ¬ (m % 10000 < 100 ∧ F_tells g (nI (m / 10000 % 10)) ≤ (nI (m % 10000))) := fun z => absurd z.2 (Int32.not_le.mpr h176)
             exact ⟨_, by with_reducible rfl, by rw [r1, b01_f hno], by rw [r2]; exact hR, Fr.rf _ _⟩)
          | (have hyes : m % 10000 < 100 ∧ F_tells g (nI (m / 10000 % 10)) ≤ (nI (m % 10000)) := ⟨Classical.byContradiction (fun z => h164 (nI_le (a := 100) (by omega) (by omega))), Int32.not_lt.mp h176⟩
             exact ⟨_, by with_reducible rfl, by rw [r1, b01_t hyes], by rw [r2]; exact hR, Fr.rf _ _⟩)
      · refine V_iconst hC (1) kX5_runCommand_179 (by decide) ?_
        refine V_goto hC 184 kX5_runCommand_180 (by decide) ?_
        refine V_iretz hC rfl kX5_runCommand_184 ?_ ?_
        · first
        | exact Or.inl rfl
        | exact Or.inr rfl
        | exact b01_z _
        | (rw [h104.1]; exact b01_z _)
        | (rw [h114.1]; exact b01_z _)
        | (rw [h124.1]; exact b01_z _)
        | (rw [h137.1]; exact b01_z _)
        | (rw [h116.1]; exact b01_z _)
        | (rw [h143.1]; exact b01_z _)
        | (rw [h167.1]; exact b01_z _)
        | (rw [h194.1]; exact b01_z _)
        | (rw [h211.1]; exact b01_z _)
        · obtain ⟨r1, r2⟩ := rcm_8 g (m := m) old hI
          first
          | (have hno : ¬ (m % 10000 < 100 ∧ F_tells g (nI (m / 10000 % 10)) ≤ (nI (m % 10000))) := fun z => nI_ge (b := 100) z.1 (by decide) h164
             exact ⟨_, by with_reducible rfl, by rw [r1, b01_f hno], by rw [r2]; exact hR, Fr.rf _ _⟩)
          | (have hno : ¬ (m % 10000 < 100 ∧ F_tells g (nI (m / 10000 % 10)) ≤ (nI (m % 10000))) := fun z => absurd z.2 (Int32.not_le.mpr h176)
             exact ⟨_, by with_reducible rfl, by rw [r1, b01_f hno], by rw [r2]; exact hR, Fr.rf _ _⟩)
          | (have hyes : m % 10000 < 100 ∧ F_tells g (nI (m / 10000 % 10)) ≤ (nI (m % 10000)) := ⟨Classical.byContradiction (fun z => h164 (nI_le (a := 100) (by omega) (by omega))), Int32.not_lt.mp h176⟩
             exact ⟨_, by with_reducible rfl, by rw [r1, b01_t hyes], by rw [r2]; exact hR, Fr.rf _ _⟩)
  · rw [hDn]
    rw [hDn] at ex
    refine V_tabIn hC (165) 185 kX5_runCommand_20 (by rw [ex]; decide) (by rw [ex]; decide) (by rw [ex]; rfl) (by decide) ?_
    refine V_iload_n hC kX5_runCommand_185 rfl ?_
    refine V_bipush hC (10) kX5_runCommand_186 (by decide) ?_
    refine V_icmp_ge hC 207 kX5_runCommand_188 (by decide) (fun h188 => ?_) (fun h188 => ?_)
    · refine V_iconst hC (0) kX5_runCommand_207 (by decide) ?_
      refine V_iretz hC rfl kX5_runCommand_208 ?_ ?_
      · first
      | exact Or.inl rfl
      | exact Or.inr rfl
      | exact b01_z _
      | (rw [h104.1]; exact b01_z _)
      | (rw [h114.1]; exact b01_z _)
      | (rw [h124.1]; exact b01_z _)
      | (rw [h137.1]; exact b01_z _)
      | (rw [h116.1]; exact b01_z _)
      | (rw [h143.1]; exact b01_z _)
      | (rw [h167.1]; exact b01_z _)
      | (rw [h194.1]; exact b01_z _)
      | (rw [h211.1]; exact b01_z _)
      · obtain ⟨r1, r2⟩ := rcm_9 g (m := m) old hI
        first
        | (have hno : ¬ (m % 10000 < 10 ∧ inn (nI (m / 10000 % 10)) 0 (g 4 - 1) ∧ (nI (m % 10000)) ≤ F_serves g (nI (m / 10000 % 10))) := fun z => nI_ge (b := 10) z.1 (by decide) h188
           exact ⟨_, by with_reducible rfl, by rw [r1, b01_f hno], by rw [r2]; exact hR, Fr.rf _ _⟩)
        | (have hno : ¬ (m % 10000 < 10 ∧ inn (nI (m / 10000 % 10)) 0 (g 4 - 1) ∧ (nI (m % 10000)) ≤ F_serves g (nI (m / 10000 % 10))) := fun z => b01e.mp h200 z.2
           exact ⟨_, by with_reducible rfl, by rw [r1, b01_f hno], by rw [r2]; exact hR, Fr.rf _ _⟩)
        | (have hyes : m % 10000 < 10 ∧ inn (nI (m / 10000 % 10)) 0 (g 4 - 1) ∧ (nI (m % 10000)) ≤ F_serves g (nI (m / 10000 % 10)) := ⟨Classical.byContradiction (fun z => h188 (nI_le (a := 10) (by omega) (by omega))), b01n.mp h200⟩
           exact ⟨_, by with_reducible rfl, by rw [r1, b01_t hyes], by rw [r2]; exact hR, Fr.rf _ _⟩)
    · refine V_aload_n hC kX5_runCommand_191 rfl ?_
      refine V_getR hC hWr 5 2 lfX5_23 kX5_runCommand_192 (Nat.le_of_ble_eq_true rfl) (Nat.le_of_ble_eq_true rfl) rfl ?_
      refine V_iload_n hC kX5_runCommand_195 rfl ?_
      refine V_iload_n hC kX5_runCommand_196 rfl ?_
      refine V_cV_fI hC (cl_isServingAtLeast hWr _ _ hR hI) mkX1_isServingAtLeast lmX5_293 kX5_runCommand_197 (Nat.le_of_ble_eq_true rfl) rfl rfl rfl (Nat.le_of_ble_eq_true rfl) ⟨(Nat.le_of_ble_eq_true rfl), (Nat.le_of_ble_eq_true rfl)⟩ ⟨rfl, rfl⟩ ⟨(Nat.le_of_ble_eq_true rfl), (Nat.le_of_ble_eq_true rfl)⟩ ?_
      refine V_if_eq hC 207 kX5_runCommand_200 (by decide) (fun h200 => ?_) (fun h200 => ?_)
      · refine V_iconst hC (0) kX5_runCommand_207 (by decide) ?_
        refine V_iretz hC rfl kX5_runCommand_208 ?_ ?_
        · first
        | exact Or.inl rfl
        | exact Or.inr rfl
        | exact b01_z _
        | (rw [h104.1]; exact b01_z _)
        | (rw [h114.1]; exact b01_z _)
        | (rw [h124.1]; exact b01_z _)
        | (rw [h137.1]; exact b01_z _)
        | (rw [h116.1]; exact b01_z _)
        | (rw [h143.1]; exact b01_z _)
        | (rw [h167.1]; exact b01_z _)
        | (rw [h194.1]; exact b01_z _)
        | (rw [h211.1]; exact b01_z _)
        · obtain ⟨r1, r2⟩ := rcm_9 g (m := m) old hI
          first
          | (have hno : ¬ (m % 10000 < 10 ∧ inn (nI (m / 10000 % 10)) 0 (g 4 - 1) ∧ (nI (m % 10000)) ≤ F_serves g (nI (m / 10000 % 10))) := fun z => nI_ge (b := 10) z.1 (by decide) h188
             exact ⟨_, by with_reducible rfl, by rw [r1, b01_f hno], by rw [r2]; exact hR, Fr.rf _ _⟩)
          | (have hno : ¬ (m % 10000 < 10 ∧ inn (nI (m / 10000 % 10)) 0 (g 4 - 1) ∧ (nI (m % 10000)) ≤ F_serves g (nI (m / 10000 % 10))) := fun z => b01e.mp h200 z.2
             exact ⟨_, by with_reducible rfl, by rw [r1, b01_f hno], by rw [r2]; exact hR, Fr.rf _ _⟩)
          | (have hyes : m % 10000 < 10 ∧ inn (nI (m / 10000 % 10)) 0 (g 4 - 1) ∧ (nI (m % 10000)) ≤ F_serves g (nI (m / 10000 % 10)) := ⟨Classical.byContradiction (fun z => h188 (nI_le (a := 10) (by omega) (by omega))), b01n.mp h200⟩
             exact ⟨_, by with_reducible rfl, by rw [r1, b01_t hyes], by rw [r2]; exact hR, Fr.rf _ _⟩)
      · refine V_iconst hC (1) kX5_runCommand_203 (by decide) ?_
        refine V_goto hC 208 kX5_runCommand_204 (by decide) ?_
        refine V_iretz hC rfl kX5_runCommand_208 ?_ ?_
        · first
        | exact Or.inl rfl
        | exact Or.inr rfl
        | exact b01_z _
        | (rw [h104.1]; exact b01_z _)
        | (rw [h114.1]; exact b01_z _)
        | (rw [h124.1]; exact b01_z _)
        | (rw [h137.1]; exact b01_z _)
        | (rw [h116.1]; exact b01_z _)
        | (rw [h143.1]; exact b01_z _)
        | (rw [h167.1]; exact b01_z _)
        | (rw [h194.1]; exact b01_z _)
        | (rw [h211.1]; exact b01_z _)
        · obtain ⟨r1, r2⟩ := rcm_9 g (m := m) old hI
          first
          | (have hno : ¬ (m % 10000 < 10 ∧ inn (nI (m / 10000 % 10)) 0 (g 4 - 1) ∧ (nI (m % 10000)) ≤ F_serves g (nI (m / 10000 % 10))) := fun z => nI_ge (b := 10) z.1 (by decide) h188
             exact ⟨_, by with_reducible rfl, by rw [r1, b01_f hno], by rw [r2]; exact hR, Fr.rf _ _⟩)
          | (have hno : ¬ (m % 10000 < 10 ∧ inn (nI (m / 10000 % 10)) 0 (g 4 - 1) ∧ (nI (m % 10000)) ≤ F_serves g (nI (m / 10000 % 10))) := fun z => b01e.mp h200 z.2
             exact ⟨_, by with_reducible rfl, by rw [r1, b01_f hno], by rw [r2]; exact hR, Fr.rf _ _⟩)
          | (have hyes : m % 10000 < 10 ∧ inn (nI (m / 10000 % 10)) 0 (g 4 - 1) ∧ (nI (m % 10000)) ≤ F_serves g (nI (m / 10000 % 10)) := ⟨Classical.byContradiction (fun z => h188 (nI_le (a := 10) (by omega) (by omega))), b01n.mp h200⟩
             exact ⟨_, by with_reducible rfl, by rw [r1, b01_t hyes], by rw [r2]; exact hR, Fr.rf _ _⟩)
theorem ite_ne {c : Prop} [Decidable c] {X : Int32} (hX : ¬ X = -1) : ¬ (if c then X else -1) = -1 ↔ c := by
  by_cases h : c
  · rw [if_pos h]; exact ⟨fun _ => h, fun _ => hX⟩
  · rw [if_neg h]; exact ⟨fun z => absurd rfl z, fun z => absurd z h⟩
theorem g4_ne {g : Gs} (h : Inv g) : ¬ g 4 = -1 := by
  rw [h.c4.2]
  exact nI_m1 (by have := h.c4.1; omega)
theorem g5_ne {g : Gs} (h : Inv g) : ¬ g 5 = -1 := by
  rw [h.c5.2]
  exact nI_m1 (by have := h.c5.1; omega)
theorem addL_4 {g : Gs} (h : Inv g) {q st k n bo re : Int32} (hc : cLight g q st k n bo re) : F_addLight g q st k n bo re 4 - 1 = g 4 := by
  have hN : tn (g 4) < 6 := by
    have := Int32.lt_iff_toInt_lt.mp hc.2.2
    have e := e4int h
    have z : (6 : Int32).toInt = 6 := rfl
    omega
  rw [(addL_at h hN).1, sub1]
theorem obL_iff {g : Gs} (h : Inv g) {q st k n bo re : Int32} : ¬ (if cLight g q st k n bo re then F_addLight g q st k n bo re 4 - 1 else -1) = -1 ↔ cLight g q st k n bo re := by
  by_cases hc : cLight g q st k n bo re
  · rw [if_pos hc, addL_4 h hc]; exact ⟨fun _ => hc, fun _ => g4_ne h⟩
  · rw [if_neg hc]; exact ⟨fun z => absurd rfl z, fun z => absurd z hc⟩
def mtX5_obeyCommand : Mt := (yX5_obeyCommand, cX5_obeyCommand, 1, (some .boolean), 6, 132, 0, 0)
theorem kX5_obeyCommand_0 : Dk mtX5_obeyCommand 0 (.aload_n 0) 1 1 := ⟨by decide +kernel, rfl⟩
theorem kX5_obeyCommand_1 : Dk mtX5_obeyCommand 1 (.getfield 10) 3 4 := ⟨by decide +kernel, rfl⟩
theorem kX5_obeyCommand_4 : Dk mtX5_obeyCommand 4 (.getfield 78) 3 7 := ⟨by decide +kernel, rfl⟩
theorem kX5_obeyCommand_7 : Dk mtX5_obeyCommand 7 (.lookupswitch 225 #[(98, 113), (107, 140), (108, 57), (109, 191), (116, 208), (118, 164)]) 57 64 := ⟨by decide +kernel, rfl⟩
theorem kX5_obeyCommand_64 : Dk mtX5_obeyCommand 64 (.aload_n 0) 1 65 := ⟨by decide +kernel, rfl⟩
theorem kX5_obeyCommand_65 : Dk mtX5_obeyCommand 65 (.getfield 19) 3 68 := ⟨by decide +kernel, rfl⟩
theorem kX5_obeyCommand_68 : Dk mtX5_obeyCommand 68 (.aload_n 0) 1 69 := ⟨by decide +kernel, rfl⟩
theorem kX5_obeyCommand_69 : Dk mtX5_obeyCommand 69 (.getfield 10) 3 72 := ⟨by decide +kernel, rfl⟩
theorem kX5_obeyCommand_72 : Dk mtX5_obeyCommand 72 (.iconst 0) 1 73 := ⟨by decide +kernel, rfl⟩
theorem kX5_obeyCommand_73 : Dk mtX5_obeyCommand 73 (.invokevirtual 82) 3 76 := ⟨by decide +kernel, rfl⟩
theorem kX5_obeyCommand_76 : Dk mtX5_obeyCommand 76 (.aload_n 0) 1 77 := ⟨by decide +kernel, rfl⟩
theorem kX5_obeyCommand_77 : Dk mtX5_obeyCommand 77 (.getfield 10) 3 80 := ⟨by decide +kernel, rfl⟩
theorem kX5_obeyCommand_80 : Dk mtX5_obeyCommand 80 (.iconst 1) 1 81 := ⟨by decide +kernel, rfl⟩
theorem kX5_obeyCommand_81 : Dk mtX5_obeyCommand 81 (.invokevirtual 82) 3 84 := ⟨by decide +kernel, rfl⟩
theorem kX5_obeyCommand_84 : Dk mtX5_obeyCommand 84 (.aload_n 0) 1 85 := ⟨by decide +kernel, rfl⟩
theorem kX5_obeyCommand_85 : Dk mtX5_obeyCommand 85 (.getfield 10) 3 88 := ⟨by decide +kernel, rfl⟩
theorem kX5_obeyCommand_88 : Dk mtX5_obeyCommand 88 (.iconst 2) 1 89 := ⟨by decide +kernel, rfl⟩
theorem kX5_obeyCommand_89 : Dk mtX5_obeyCommand 89 (.invokevirtual 82) 3 92 := ⟨by decide +kernel, rfl⟩
theorem kX5_obeyCommand_92 : Dk mtX5_obeyCommand 92 (.aload_n 0) 1 93 := ⟨by decide +kernel, rfl⟩
theorem kX5_obeyCommand_93 : Dk mtX5_obeyCommand 93 (.getfield 10) 3 96 := ⟨by decide +kernel, rfl⟩
theorem kX5_obeyCommand_96 : Dk mtX5_obeyCommand 96 (.iconst 3) 1 97 := ⟨by decide +kernel, rfl⟩
theorem kX5_obeyCommand_97 : Dk mtX5_obeyCommand 97 (.invokevirtual 82) 3 100 := ⟨by decide +kernel, rfl⟩
theorem kX5_obeyCommand_100 : Dk mtX5_obeyCommand 100 (.aload_n 0) 1 101 := ⟨by decide +kernel, rfl⟩
theorem kX5_obeyCommand_101 : Dk mtX5_obeyCommand 101 (.getfield 10) 3 104 := ⟨by decide +kernel, rfl⟩
theorem kX5_obeyCommand_104 : Dk mtX5_obeyCommand 104 (.iconst 4) 1 105 := ⟨by decide +kernel, rfl⟩
theorem kX5_obeyCommand_105 : Dk mtX5_obeyCommand 105 (.invokevirtual 82) 3 108 := ⟨by decide +kernel, rfl⟩
theorem kX5_obeyCommand_108 : Dk mtX5_obeyCommand 108 (.aload_n 0) 1 109 := ⟨by decide +kernel, rfl⟩
theorem kX5_obeyCommand_109 : Dk mtX5_obeyCommand 109 (.getfield 10) 3 112 := ⟨by decide +kernel, rfl⟩
theorem kX5_obeyCommand_112 : Dk mtX5_obeyCommand 112 (.iconst 5) 1 113 := ⟨by decide +kernel, rfl⟩
theorem kX5_obeyCommand_113 : Dk mtX5_obeyCommand 113 (.invokevirtual 82) 3 116 := ⟨by decide +kernel, rfl⟩
theorem kX5_obeyCommand_116 : Dk mtX5_obeyCommand 116 (.invokevirtual 85) 3 119 := ⟨by decide +kernel, rfl⟩
theorem kX5_obeyCommand_119 : Dk mtX5_obeyCommand 119 (.ireturn) 1 120 := ⟨by decide +kernel, rfl⟩
theorem kX5_obeyCommand_120 : Dk mtX5_obeyCommand 120 (.aload_n 0) 1 121 := ⟨by decide +kernel, rfl⟩
theorem kX5_obeyCommand_121 : Dk mtX5_obeyCommand 121 (.getfield 19) 3 124 := ⟨by decide +kernel, rfl⟩
theorem kX5_obeyCommand_124 : Dk mtX5_obeyCommand 124 (.aload_n 0) 1 125 := ⟨by decide +kernel, rfl⟩
theorem kX5_obeyCommand_125 : Dk mtX5_obeyCommand 125 (.getfield 10) 3 128 := ⟨by decide +kernel, rfl⟩
theorem kX5_obeyCommand_128 : Dk mtX5_obeyCommand 128 (.iconst 0) 1 129 := ⟨by decide +kernel, rfl⟩
theorem kX5_obeyCommand_129 : Dk mtX5_obeyCommand 129 (.invokevirtual 82) 3 132 := ⟨by decide +kernel, rfl⟩
theorem kX5_obeyCommand_132 : Dk mtX5_obeyCommand 132 (.aload_n 0) 1 133 := ⟨by decide +kernel, rfl⟩
theorem kX5_obeyCommand_133 : Dk mtX5_obeyCommand 133 (.getfield 10) 3 136 := ⟨by decide +kernel, rfl⟩
theorem kX5_obeyCommand_136 : Dk mtX5_obeyCommand 136 (.iconst 1) 1 137 := ⟨by decide +kernel, rfl⟩
theorem kX5_obeyCommand_137 : Dk mtX5_obeyCommand 137 (.invokevirtual 82) 3 140 := ⟨by decide +kernel, rfl⟩
theorem kX5_obeyCommand_140 : Dk mtX5_obeyCommand 140 (.bipush 6) 2 142 := ⟨by decide +kernel, rfl⟩
theorem kX5_obeyCommand_142 : Dk mtX5_obeyCommand 142 (.isub) 1 143 := ⟨by decide +kernel, rfl⟩
theorem kX5_obeyCommand_143 : Dk mtX5_obeyCommand 143 (.invokevirtual 89) 3 146 := ⟨by decide +kernel, rfl⟩
theorem kX5_obeyCommand_146 : Dk mtX5_obeyCommand 146 (.ireturn) 1 147 := ⟨by decide +kernel, rfl⟩
theorem kX5_obeyCommand_147 : Dk mtX5_obeyCommand 147 (.aload_n 0) 1 148 := ⟨by decide +kernel, rfl⟩
theorem kX5_obeyCommand_148 : Dk mtX5_obeyCommand 148 (.getfield 19) 3 151 := ⟨by decide +kernel, rfl⟩
theorem kX5_obeyCommand_151 : Dk mtX5_obeyCommand 151 (.aload_n 0) 1 152 := ⟨by decide +kernel, rfl⟩
theorem kX5_obeyCommand_152 : Dk mtX5_obeyCommand 152 (.getfield 10) 3 155 := ⟨by decide +kernel, rfl⟩
theorem kX5_obeyCommand_155 : Dk mtX5_obeyCommand 155 (.iconst 0) 1 156 := ⟨by decide +kernel, rfl⟩
theorem kX5_obeyCommand_156 : Dk mtX5_obeyCommand 156 (.invokevirtual 82) 3 159 := ⟨by decide +kernel, rfl⟩
theorem kX5_obeyCommand_159 : Dk mtX5_obeyCommand 159 (.aload_n 0) 1 160 := ⟨by decide +kernel, rfl⟩
theorem kX5_obeyCommand_160 : Dk mtX5_obeyCommand 160 (.getfield 10) 3 163 := ⟨by decide +kernel, rfl⟩
theorem kX5_obeyCommand_163 : Dk mtX5_obeyCommand 163 (.iconst 1) 1 164 := ⟨by decide +kernel, rfl⟩
theorem kX5_obeyCommand_164 : Dk mtX5_obeyCommand 164 (.invokevirtual 82) 3 167 := ⟨by decide +kernel, rfl⟩
theorem kX5_obeyCommand_167 : Dk mtX5_obeyCommand 167 (.invokevirtual 93) 3 170 := ⟨by decide +kernel, rfl⟩
theorem kX5_obeyCommand_170 : Dk mtX5_obeyCommand 170 (.ireturn) 1 171 := ⟨by decide +kernel, rfl⟩
theorem kX5_obeyCommand_171 : Dk mtX5_obeyCommand 171 (.aload_n 0) 1 172 := ⟨by decide +kernel, rfl⟩
theorem kX5_obeyCommand_172 : Dk mtX5_obeyCommand 172 (.getfield 19) 3 175 := ⟨by decide +kernel, rfl⟩
theorem kX5_obeyCommand_175 : Dk mtX5_obeyCommand 175 (.aload_n 0) 1 176 := ⟨by decide +kernel, rfl⟩
theorem kX5_obeyCommand_176 : Dk mtX5_obeyCommand 176 (.getfield 10) 3 179 := ⟨by decide +kernel, rfl⟩
theorem kX5_obeyCommand_179 : Dk mtX5_obeyCommand 179 (.iconst 0) 1 180 := ⟨by decide +kernel, rfl⟩
theorem kX5_obeyCommand_180 : Dk mtX5_obeyCommand 180 (.invokevirtual 82) 3 183 := ⟨by decide +kernel, rfl⟩
theorem kX5_obeyCommand_183 : Dk mtX5_obeyCommand 183 (.aload_n 0) 1 184 := ⟨by decide +kernel, rfl⟩
theorem kX5_obeyCommand_184 : Dk mtX5_obeyCommand 184 (.getfield 10) 3 187 := ⟨by decide +kernel, rfl⟩
theorem kX5_obeyCommand_187 : Dk mtX5_obeyCommand 187 (.iconst 1) 1 188 := ⟨by decide +kernel, rfl⟩
theorem kX5_obeyCommand_188 : Dk mtX5_obeyCommand 188 (.invokevirtual 82) 3 191 := ⟨by decide +kernel, rfl⟩
theorem kX5_obeyCommand_191 : Dk mtX5_obeyCommand 191 (.bipush 6) 2 193 := ⟨by decide +kernel, rfl⟩
theorem kX5_obeyCommand_193 : Dk mtX5_obeyCommand 193 (.isub) 1 194 := ⟨by decide +kernel, rfl⟩
theorem kX5_obeyCommand_194 : Dk mtX5_obeyCommand 194 (.invokevirtual 96) 3 197 := ⟨by decide +kernel, rfl⟩
theorem kX5_obeyCommand_197 : Dk mtX5_obeyCommand 197 (.ireturn) 1 198 := ⟨by decide +kernel, rfl⟩
theorem kX5_obeyCommand_198 : Dk mtX5_obeyCommand 198 (.aload_n 0) 1 199 := ⟨by decide +kernel, rfl⟩
theorem kX5_obeyCommand_199 : Dk mtX5_obeyCommand 199 (.getfield 19) 3 202 := ⟨by decide +kernel, rfl⟩
theorem kX5_obeyCommand_202 : Dk mtX5_obeyCommand 202 (.iconst 0) 1 203 := ⟨by decide +kernel, rfl⟩
theorem kX5_obeyCommand_203 : Dk mtX5_obeyCommand 203 (.aload_n 0) 1 204 := ⟨by decide +kernel, rfl⟩
theorem kX5_obeyCommand_204 : Dk mtX5_obeyCommand 204 (.getfield 10) 3 207 := ⟨by decide +kernel, rfl⟩
theorem kX5_obeyCommand_207 : Dk mtX5_obeyCommand 207 (.iconst 0) 1 208 := ⟨by decide +kernel, rfl⟩
theorem kX5_obeyCommand_208 : Dk mtX5_obeyCommand 208 (.invokevirtual 82) 3 211 := ⟨by decide +kernel, rfl⟩
theorem kX5_obeyCommand_211 : Dk mtX5_obeyCommand 211 (.invokevirtual 99) 3 214 := ⟨by decide +kernel, rfl⟩
theorem kX5_obeyCommand_214 : Dk mtX5_obeyCommand 214 (.ireturn) 1 215 := ⟨by decide +kernel, rfl⟩
theorem kX5_obeyCommand_215 : Dk mtX5_obeyCommand 215 (.aload_n 0) 1 216 := ⟨by decide +kernel, rfl⟩
theorem kX5_obeyCommand_216 : Dk mtX5_obeyCommand 216 (.getfield 19) 3 219 := ⟨by decide +kernel, rfl⟩
theorem kX5_obeyCommand_219 : Dk mtX5_obeyCommand 219 (.aload_n 0) 1 220 := ⟨by decide +kernel, rfl⟩
theorem kX5_obeyCommand_220 : Dk mtX5_obeyCommand 220 (.getfield 10) 3 223 := ⟨by decide +kernel, rfl⟩
theorem kX5_obeyCommand_223 : Dk mtX5_obeyCommand 223 (.iconst 0) 1 224 := ⟨by decide +kernel, rfl⟩
theorem kX5_obeyCommand_224 : Dk mtX5_obeyCommand 224 (.invokevirtual 82) 3 227 := ⟨by decide +kernel, rfl⟩
theorem kX5_obeyCommand_227 : Dk mtX5_obeyCommand 227 (.invokevirtual 102) 3 230 := ⟨by decide +kernel, rfl⟩
theorem kX5_obeyCommand_230 : Dk mtX5_obeyCommand 230 (.iconst 1) 1 231 := ⟨by decide +kernel, rfl⟩
theorem kX5_obeyCommand_231 : Dk mtX5_obeyCommand 231 (.ireturn) 1 232 := ⟨by decide +kernel, rfl⟩
theorem kX5_obeyCommand_232 : Dk mtX5_obeyCommand 232 (.iconst 0) 1 233 := ⟨by decide +kernel, rfl⟩
theorem kX5_obeyCommand_233 : Dk mtX5_obeyCommand 233 (.ireturn) 1 234 := ⟨by decide +kernel, rfl⟩
theorem lfX5_10 : LkF RX5 10 5 0 := Or.inl (by decide +kernel)
theorem lfX5_78 : LkF RX5 78 4 4 := Or.inr (by decide +kernel)
theorem lmX5_82 : LkM RX5 82 mtX4_number := Or.inl (by decide +kernel)
theorem mkX4_number : MkV mtX4_number 1 := ⟨List.mem_of_getElem? (i := 509) (by decide +kernel), by decide +kernel, by decide +kernel, by decide +kernel, ⟨by decide +kernel, by decide +kernel, by decide +kernel⟩⟩
set_option maxHeartbeats 4000000 in
set_option maxRecDepth 100000 in
theorem cl_obey {l : Launch} {w : Wd} {sg : Sg} (hWr : Wr w) {x : Nat} {g : Gs} (hR : Rel sg (x + 4) g) (hI : Inv g) {a : Int32} {v : Nat → Int32} (hc : cCmd a) (ha : sg (x + 1) 4 = a) (hv : ∀ i, i < nfm a → sg (x + 1 + 2) i = v i) (ht : a = 116 → inn (v 0) 1 60) : M l mtX5_obeyCommand w [vR (some (5, 0, x))] sg (rI (fun r sg2 => r = b01 (¬ F_obR g a v = -1) ∧ Rel sg2 (x + 4) (F_obG g a v) ∧ Fr (x + 4) sg sg2)) := by
  refine M_of [some (vR (some (5, 0, x)))] rfl (Nat.le_of_ble_eq_true rfl) (by decide +kernel) ?_
  intro p_ e_ s_ m_ args_ below_ meth_ c_ hC hO
  refine V_aload_n hC kX5_obeyCommand_0 rfl ?_
  refine V_getR hC hWr 5 0 lfX5_10 kX5_obeyCommand_1 (Nat.le_of_ble_eq_true rfl) (Nat.le_of_ble_eq_true rfl) rfl ?_
  refine V_getI hC 4 4 lfX5_78 kX5_obeyCommand_4 (Nat.le_of_ble_eq_true rfl) (Nat.le_of_ble_eq_true rfl) rfl ?_
  rw [ha]
  rcases hc with rfl | rfl | rfl | rfl | rfl | rfl
  · refine V_lookup hC (57) 64 kX5_obeyCommand_7 rfl rfl (by decide) ?_
    refine V_aload_n hC kX5_obeyCommand_64 rfl ?_
    refine V_getR hC hWr 5 1 lfX5_19 kX5_obeyCommand_65 (Nat.le_of_ble_eq_true rfl) (Nat.le_of_ble_eq_true rfl) rfl ?_
    refine V_aload_n hC kX5_obeyCommand_68 rfl ?_
    refine V_getR hC hWr 5 0 lfX5_10 kX5_obeyCommand_69 (Nat.le_of_ble_eq_true rfl) (Nat.le_of_ble_eq_true rfl) rfl ?_
    refine V_iconst hC (0) kX5_obeyCommand_72 (by decide) ?_
    refine V_cV_fI hC (cl_number hWr (t := x + 1) (i := 0) (by decide) rfl) mkX4_number lmX5_82 kX5_obeyCommand_73 (Nat.le_of_ble_eq_true rfl) rfl rfl rfl (Nat.le_of_ble_eq_true rfl) ⟨(Nat.le_of_ble_eq_true rfl), (Nat.le_of_ble_eq_true rfl)⟩ ⟨rfl, rfl⟩ ⟨(Nat.le_of_ble_eq_true rfl), (Nat.le_of_ble_eq_true rfl)⟩ ?_
    refine V_aload_n hC kX5_obeyCommand_76 rfl ?_
    refine V_getR hC hWr 5 0 lfX5_10 kX5_obeyCommand_77 (Nat.le_of_ble_eq_true rfl) (Nat.le_of_ble_eq_true rfl) rfl ?_
    refine V_iconst hC (1) kX5_obeyCommand_80 (by decide) ?_
    refine V_cV_fI hC (cl_number hWr (t := x + 1) (i := 1) (by decide) rfl) mkX4_number lmX5_82 kX5_obeyCommand_81 (Nat.le_of_ble_eq_true rfl) rfl rfl rfl (Nat.le_of_ble_eq_true rfl) ⟨(Nat.le_of_ble_eq_true rfl), (Nat.le_of_ble_eq_true rfl)⟩ ⟨rfl, rfl⟩ ⟨(Nat.le_of_ble_eq_true rfl), (Nat.le_of_ble_eq_true rfl)⟩ ?_
    refine V_aload_n hC kX5_obeyCommand_84 rfl ?_
    refine V_getR hC hWr 5 0 lfX5_10 kX5_obeyCommand_85 (Nat.le_of_ble_eq_true rfl) (Nat.le_of_ble_eq_true rfl) rfl ?_
    refine V_iconst hC (2) kX5_obeyCommand_88 (by decide) ?_
    refine V_cV_fI hC (cl_number hWr (t := x + 1) (i := 2) (by decide) rfl) mkX4_number lmX5_82 kX5_obeyCommand_89 (Nat.le_of_ble_eq_true rfl) rfl rfl rfl (Nat.le_of_ble_eq_true rfl) ⟨(Nat.le_of_ble_eq_true rfl), (Nat.le_of_ble_eq_true rfl)⟩ ⟨rfl, rfl⟩ ⟨(Nat.le_of_ble_eq_true rfl), (Nat.le_of_ble_eq_true rfl)⟩ ?_
    refine V_aload_n hC kX5_obeyCommand_92 rfl ?_
    refine V_getR hC hWr 5 0 lfX5_10 kX5_obeyCommand_93 (Nat.le_of_ble_eq_true rfl) (Nat.le_of_ble_eq_true rfl) rfl ?_
    refine V_iconst hC (3) kX5_obeyCommand_96 (by decide) ?_
    refine V_cV_fI hC (cl_number hWr (t := x + 1) (i := 3) (by decide) rfl) mkX4_number lmX5_82 kX5_obeyCommand_97 (Nat.le_of_ble_eq_true rfl) rfl rfl rfl (Nat.le_of_ble_eq_true rfl) ⟨(Nat.le_of_ble_eq_true rfl), (Nat.le_of_ble_eq_true rfl)⟩ ⟨rfl, rfl⟩ ⟨(Nat.le_of_ble_eq_true rfl), (Nat.le_of_ble_eq_true rfl)⟩ ?_
    refine V_aload_n hC kX5_obeyCommand_100 rfl ?_
    refine V_getR hC hWr 5 0 lfX5_10 kX5_obeyCommand_101 (Nat.le_of_ble_eq_true rfl) (Nat.le_of_ble_eq_true rfl) rfl ?_
    refine V_iconst hC (4) kX5_obeyCommand_104 (by decide) ?_
    refine V_cV_fI hC (cl_number hWr (t := x + 1) (i := 4) (by decide) rfl) mkX4_number lmX5_82 kX5_obeyCommand_105 (Nat.le_of_ble_eq_true rfl) rfl rfl rfl (Nat.le_of_ble_eq_true rfl) ⟨(Nat.le_of_ble_eq_true rfl), (Nat.le_of_ble_eq_true rfl)⟩ ⟨rfl, rfl⟩ ⟨(Nat.le_of_ble_eq_true rfl), (Nat.le_of_ble_eq_true rfl)⟩ ?_
    refine V_aload_n hC kX5_obeyCommand_108 rfl ?_
    refine V_getR hC hWr 5 0 lfX5_10 kX5_obeyCommand_109 (Nat.le_of_ble_eq_true rfl) (Nat.le_of_ble_eq_true rfl) rfl ?_
    refine V_iconst hC (5) kX5_obeyCommand_112 (by decide) ?_
    refine V_cV_fI hC (cl_number hWr (t := x + 1) (i := 5) (by decide) rfl) mkX4_number lmX5_82 kX5_obeyCommand_113 (Nat.le_of_ble_eq_true rfl) rfl rfl rfl (Nat.le_of_ble_eq_true rfl) ⟨(Nat.le_of_ble_eq_true rfl), (Nat.le_of_ble_eq_true rfl)⟩ ⟨rfl, rfl⟩ ⟨(Nat.le_of_ble_eq_true rfl), (Nat.le_of_ble_eq_true rfl)⟩ ?_
    rw [hv 0 (by decide)]
    rw [hv 1 (by decide)]
    rw [hv 2 (by decide)]
    rw [hv 3 (by decide)]
    rw [hv 4 (by decide)]
    rw [hv 5 (by decide)]
    refine V_cV_rI hC (cl_tryLight hWr _ _ _ _ _ _ hR hI) mkX1_tryLight lmX5_85 kX5_obeyCommand_116 (Nat.le_of_ble_eq_true rfl) rfl rfl rfl (Nat.le_of_ble_eq_true rfl) ⟨(Nat.le_of_ble_eq_true rfl), (Nat.le_of_ble_eq_true rfl)⟩ ⟨rfl, rfl⟩ ⟨(Nat.le_of_ble_eq_true rfl), (Nat.le_of_ble_eq_true rfl)⟩ (fun x116 g116 h116 => ?_)
    refine V_iretz hC rfl kX5_obeyCommand_119 ?_ ?_
    · first
    | exact Or.inl rfl
    | exact Or.inr rfl
    | exact b01_z _
    | (rw [h104.1]; exact b01_z _)
    | (rw [h114.1]; exact b01_z _)
    | (rw [h124.1]; exact b01_z _)
    | (rw [h137.1]; exact b01_z _)
    | (rw [h116.1]; exact b01_z _)
    | (rw [h143.1]; exact b01_z _)
    | (rw [h167.1]; exact b01_z _)
    | (rw [h194.1]; exact b01_z _)
    | (rw [h211.1]; exact b01_z _)
    · refine ⟨_, by with_reducible rfl, ?_, ?_, h116.2.2⟩
      · rw [h116.1, obR_108]
        exact (b01_iff (obL_iff hI)).symm
      · rw [obG_108]
        exact h116.2.1
  · refine V_lookup hC (113) 120 kX5_obeyCommand_7 rfl rfl (by decide) ?_
    refine V_aload_n hC kX5_obeyCommand_120 rfl ?_
    refine V_getR hC hWr 5 1 lfX5_19 kX5_obeyCommand_121 (Nat.le_of_ble_eq_true rfl) (Nat.le_of_ble_eq_true rfl) rfl ?_
    refine V_aload_n hC kX5_obeyCommand_124 rfl ?_
    refine V_getR hC hWr 5 0 lfX5_10 kX5_obeyCommand_125 (Nat.le_of_ble_eq_true rfl) (Nat.le_of_ble_eq_true rfl) rfl ?_
    refine V_iconst hC (0) kX5_obeyCommand_128 (by decide) ?_
    refine V_cV_fI hC (cl_number hWr (t := x + 1) (i := 0) (by decide) rfl) mkX4_number lmX5_82 kX5_obeyCommand_129 (Nat.le_of_ble_eq_true rfl) rfl rfl rfl (Nat.le_of_ble_eq_true rfl) ⟨(Nat.le_of_ble_eq_true rfl), (Nat.le_of_ble_eq_true rfl)⟩ ⟨rfl, rfl⟩ ⟨(Nat.le_of_ble_eq_true rfl), (Nat.le_of_ble_eq_true rfl)⟩ ?_
    refine V_aload_n hC kX5_obeyCommand_132 rfl ?_
    refine V_getR hC hWr 5 0 lfX5_10 kX5_obeyCommand_133 (Nat.le_of_ble_eq_true rfl) (Nat.le_of_ble_eq_true rfl) rfl ?_
    refine V_iconst hC (1) kX5_obeyCommand_136 (by decide) ?_
    refine V_cV_fI hC (cl_number hWr (t := x + 1) (i := 1) (by decide) rfl) mkX4_number lmX5_82 kX5_obeyCommand_137 (Nat.le_of_ble_eq_true rfl) rfl rfl rfl (Nat.le_of_ble_eq_true rfl) ⟨(Nat.le_of_ble_eq_true rfl), (Nat.le_of_ble_eq_true rfl)⟩ ⟨rfl, rfl⟩ ⟨(Nat.le_of_ble_eq_true rfl), (Nat.le_of_ble_eq_true rfl)⟩ ?_
    refine V_bipush hC (6) kX5_obeyCommand_140 (by decide) ?_
    refine V_isub hC kX5_obeyCommand_142 ?_
    rw [hv 0 (by decide)]
    rw [hv 1 (by decide)]
    refine V_cV_rI hC (cl_tryBoat hWr _ _ hR hI) mkX1_tryBoat lmX5_89 kX5_obeyCommand_143 (Nat.le_of_ble_eq_true rfl) rfl rfl rfl (Nat.le_of_ble_eq_true rfl) ⟨(Nat.le_of_ble_eq_true rfl), (Nat.le_of_ble_eq_true rfl)⟩ ⟨rfl, rfl⟩ ⟨(Nat.le_of_ble_eq_true rfl), (Nat.le_of_ble_eq_true rfl)⟩ (fun x143 g143 h143 => ?_)
    refine V_iretz hC rfl kX5_obeyCommand_146 ?_ ?_
    · first
    | exact Or.inl rfl
    | exact Or.inr rfl
    | exact b01_z _
    | (rw [h104.1]; exact b01_z _)
    | (rw [h114.1]; exact b01_z _)
    | (rw [h124.1]; exact b01_z _)
    | (rw [h137.1]; exact b01_z _)
    | (rw [h116.1]; exact b01_z _)
    | (rw [h143.1]; exact b01_z _)
    | (rw [h167.1]; exact b01_z _)
    | (rw [h194.1]; exact b01_z _)
    | (rw [h211.1]; exact b01_z _)
    · refine ⟨_, by with_reducible rfl, ?_, ?_, h143.2.2⟩
      · rw [h143.1, obR_98]
        exact (b01_iff (ite_ne (g5_ne hI))).symm
      · rw [obG_98]
        exact h143.2.1
  · refine V_lookup hC (140) 147 kX5_obeyCommand_7 rfl rfl (by decide) ?_
    refine V_aload_n hC kX5_obeyCommand_147 rfl ?_
    refine V_getR hC hWr 5 1 lfX5_19 kX5_obeyCommand_148 (Nat.le_of_ble_eq_true rfl) (Nat.le_of_ble_eq_true rfl) rfl ?_
    refine V_aload_n hC kX5_obeyCommand_151 rfl ?_
    refine V_getR hC hWr 5 0 lfX5_10 kX5_obeyCommand_152 (Nat.le_of_ble_eq_true rfl) (Nat.le_of_ble_eq_true rfl) rfl ?_
    refine V_iconst hC (0) kX5_obeyCommand_155 (by decide) ?_
    refine V_cV_fI hC (cl_number hWr (t := x + 1) (i := 0) (by decide) rfl) mkX4_number lmX5_82 kX5_obeyCommand_156 (Nat.le_of_ble_eq_true rfl) rfl rfl rfl (Nat.le_of_ble_eq_true rfl) ⟨(Nat.le_of_ble_eq_true rfl), (Nat.le_of_ble_eq_true rfl)⟩ ⟨rfl, rfl⟩ ⟨(Nat.le_of_ble_eq_true rfl), (Nat.le_of_ble_eq_true rfl)⟩ ?_
    refine V_aload_n hC kX5_obeyCommand_159 rfl ?_
    refine V_getR hC hWr 5 0 lfX5_10 kX5_obeyCommand_160 (Nat.le_of_ble_eq_true rfl) (Nat.le_of_ble_eq_true rfl) rfl ?_
    refine V_iconst hC (1) kX5_obeyCommand_163 (by decide) ?_
    refine V_cV_fI hC (cl_number hWr (t := x + 1) (i := 1) (by decide) rfl) mkX4_number lmX5_82 kX5_obeyCommand_164 (Nat.le_of_ble_eq_true rfl) rfl rfl rfl (Nat.le_of_ble_eq_true rfl) ⟨(Nat.le_of_ble_eq_true rfl), (Nat.le_of_ble_eq_true rfl)⟩ ⟨rfl, rfl⟩ ⟨(Nat.le_of_ble_eq_true rfl), (Nat.le_of_ble_eq_true rfl)⟩ ?_
    rw [hv 0 (by decide)]
    rw [hv 1 (by decide)]
    refine V_cV_rI hC (cl_tryTalk hWr _ _ hR hI) mkX1_tryTalk lmX5_93 kX5_obeyCommand_167 (Nat.le_of_ble_eq_true rfl) rfl rfl rfl (Nat.le_of_ble_eq_true rfl) ⟨(Nat.le_of_ble_eq_true rfl), (Nat.le_of_ble_eq_true rfl)⟩ ⟨rfl, rfl⟩ ⟨(Nat.le_of_ble_eq_true rfl), (Nat.le_of_ble_eq_true rfl)⟩ (fun x167 g167 h167 => ?_)
    refine V_iretz hC rfl kX5_obeyCommand_170 ?_ ?_
    · first
    | exact Or.inl rfl
    | exact Or.inr rfl
    | exact b01_z _
    | (rw [h104.1]; exact b01_z _)
    | (rw [h114.1]; exact b01_z _)
    | (rw [h124.1]; exact b01_z _)
    | (rw [h137.1]; exact b01_z _)
    | (rw [h116.1]; exact b01_z _)
    | (rw [h143.1]; exact b01_z _)
    | (rw [h167.1]; exact b01_z _)
    | (rw [h194.1]; exact b01_z _)
    | (rw [h211.1]; exact b01_z _)
    · refine ⟨_, by with_reducible rfl, ?_, ?_, h167.2.2⟩
      · rw [h167.1, obR_107]
        exact (b01_iff (ite_ne (by decide))).symm
      · rw [obG_107]
        exact h167.2.1
  · refine V_lookup hC (164) 171 kX5_obeyCommand_7 rfl rfl (by decide) ?_
    refine V_aload_n hC kX5_obeyCommand_171 rfl ?_
    refine V_getR hC hWr 5 1 lfX5_19 kX5_obeyCommand_172 (Nat.le_of_ble_eq_true rfl) (Nat.le_of_ble_eq_true rfl) rfl ?_
    refine V_aload_n hC kX5_obeyCommand_175 rfl ?_
    refine V_getR hC hWr 5 0 lfX5_10 kX5_obeyCommand_176 (Nat.le_of_ble_eq_true rfl) (Nat.le_of_ble_eq_true rfl) rfl ?_
    refine V_iconst hC (0) kX5_obeyCommand_179 (by decide) ?_
    refine V_cV_fI hC (cl_number hWr (t := x + 1) (i := 0) (by decide) rfl) mkX4_number lmX5_82 kX5_obeyCommand_180 (Nat.le_of_ble_eq_true rfl) rfl rfl rfl (Nat.le_of_ble_eq_true rfl) ⟨(Nat.le_of_ble_eq_true rfl), (Nat.le_of_ble_eq_true rfl)⟩ ⟨rfl, rfl⟩ ⟨(Nat.le_of_ble_eq_true rfl), (Nat.le_of_ble_eq_true rfl)⟩ ?_
    refine V_aload_n hC kX5_obeyCommand_183 rfl ?_
    refine V_getR hC hWr 5 0 lfX5_10 kX5_obeyCommand_184 (Nat.le_of_ble_eq_true rfl) (Nat.le_of_ble_eq_true rfl) rfl ?_
    refine V_iconst hC (1) kX5_obeyCommand_187 (by decide) ?_
    refine V_cV_fI hC (cl_number hWr (t := x + 1) (i := 1) (by decide) rfl) mkX4_number lmX5_82 kX5_obeyCommand_188 (Nat.le_of_ble_eq_true rfl) rfl rfl rfl (Nat.le_of_ble_eq_true rfl) ⟨(Nat.le_of_ble_eq_true rfl), (Nat.le_of_ble_eq_true rfl)⟩ ⟨rfl, rfl⟩ ⟨(Nat.le_of_ble_eq_true rfl), (Nat.le_of_ble_eq_true rfl)⟩ ?_
    refine V_bipush hC (6) kX5_obeyCommand_191 (by decide) ?_
    refine V_isub hC kX5_obeyCommand_193 ?_
    rw [hv 0 (by decide)]
    rw [hv 1 (by decide)]
    refine V_cV_rI hC (cl_trySteer hWr _ _ hR hI) mkX1_trySteer lmX5_96 kX5_obeyCommand_194 (Nat.le_of_ble_eq_true rfl) rfl rfl rfl (Nat.le_of_ble_eq_true rfl) ⟨(Nat.le_of_ble_eq_true rfl), (Nat.le_of_ble_eq_true rfl)⟩ ⟨rfl, rfl⟩ ⟨(Nat.le_of_ble_eq_true rfl), (Nat.le_of_ble_eq_true rfl)⟩ (fun x194 g194 h194 => ?_)
    refine V_iretz hC rfl kX5_obeyCommand_197 ?_ ?_
    · first
    | exact Or.inl rfl
    | exact Or.inr rfl
    | exact b01_z _
    | (rw [h104.1]; exact b01_z _)
    | (rw [h114.1]; exact b01_z _)
    | (rw [h124.1]; exact b01_z _)
    | (rw [h137.1]; exact b01_z _)
    | (rw [h116.1]; exact b01_z _)
    | (rw [h143.1]; exact b01_z _)
    | (rw [h167.1]; exact b01_z _)
    | (rw [h194.1]; exact b01_z _)
    | (rw [h211.1]; exact b01_z _)
    · refine ⟨_, by with_reducible rfl, ?_, ?_, h194.2.2⟩
      · rw [h194.1, obR_118]
        exact (b01_iff (ite_ne (by decide))).symm
      · rw [obG_118]
        exact h194.2.1
  · refine V_lookup hC (191) 198 kX5_obeyCommand_7 rfl rfl (by decide) ?_
    refine V_aload_n hC kX5_obeyCommand_198 rfl ?_
    refine V_getR hC hWr 5 1 lfX5_19 kX5_obeyCommand_199 (Nat.le_of_ble_eq_true rfl) (Nat.le_of_ble_eq_true rfl) rfl ?_
    refine V_iconst hC (0) kX5_obeyCommand_202 (by decide) ?_
    refine V_aload_n hC kX5_obeyCommand_203 rfl ?_
    refine V_getR hC hWr 5 0 lfX5_10 kX5_obeyCommand_204 (Nat.le_of_ble_eq_true rfl) (Nat.le_of_ble_eq_true rfl) rfl ?_
    refine V_iconst hC (0) kX5_obeyCommand_207 (by decide) ?_
    refine V_cV_fI hC (cl_number hWr (t := x + 1) (i := 0) (by decide) rfl) mkX4_number lmX5_82 kX5_obeyCommand_208 (Nat.le_of_ble_eq_true rfl) rfl rfl rfl (Nat.le_of_ble_eq_true rfl) ⟨(Nat.le_of_ble_eq_true rfl), (Nat.le_of_ble_eq_true rfl)⟩ ⟨rfl, rfl⟩ ⟨(Nat.le_of_ble_eq_true rfl), (Nat.le_of_ble_eq_true rfl)⟩ ?_
    rw [hv 0 (by decide)]
    refine V_cV_rI hC (cl_trySet hWr _ _ hR hI) mkX1_trySet lmX5_99 kX5_obeyCommand_211 (Nat.le_of_ble_eq_true rfl) rfl rfl rfl (Nat.le_of_ble_eq_true rfl) ⟨(Nat.le_of_ble_eq_true rfl), (Nat.le_of_ble_eq_true rfl)⟩ ⟨rfl, rfl⟩ ⟨(Nat.le_of_ble_eq_true rfl), (Nat.le_of_ble_eq_true rfl)⟩ (fun x211 g211 h211 => ?_)
    refine V_iretz hC rfl kX5_obeyCommand_214 ?_ ?_
    · first
    | exact Or.inl rfl
    | exact Or.inr rfl
    | exact b01_z _
    | (rw [h104.1]; exact b01_z _)
    | (rw [h114.1]; exact b01_z _)
    | (rw [h124.1]; exact b01_z _)
    | (rw [h137.1]; exact b01_z _)
    | (rw [h116.1]; exact b01_z _)
    | (rw [h143.1]; exact b01_z _)
    | (rw [h167.1]; exact b01_z _)
    | (rw [h194.1]; exact b01_z _)
    | (rw [h211.1]; exact b01_z _)
    · refine ⟨_, by with_reducible rfl, ?_, ?_, h211.2.2⟩
      · rw [h211.1, obR_109]
        exact (b01_iff (ite_ne (by decide))).symm
      · rw [obG_109]
        exact h211.2.1
  · refine V_lookup hC (208) 215 kX5_obeyCommand_7 rfl rfl (by decide) ?_
    refine V_aload_n hC kX5_obeyCommand_215 rfl ?_
    refine V_getR hC hWr 5 1 lfX5_19 kX5_obeyCommand_216 (Nat.le_of_ble_eq_true rfl) (Nat.le_of_ble_eq_true rfl) rfl ?_
    refine V_aload_n hC kX5_obeyCommand_219 rfl ?_
    refine V_getR hC hWr 5 0 lfX5_10 kX5_obeyCommand_220 (Nat.le_of_ble_eq_true rfl) (Nat.le_of_ble_eq_true rfl) rfl ?_
    refine V_iconst hC (0) kX5_obeyCommand_223 (by decide) ?_
    refine V_cV_fI hC (cl_number hWr (t := x + 1) (i := 0) (by decide) rfl) mkX4_number lmX5_82 kX5_obeyCommand_224 (Nat.le_of_ble_eq_true rfl) rfl rfl rfl (Nat.le_of_ble_eq_true rfl) ⟨(Nat.le_of_ble_eq_true rfl), (Nat.le_of_ble_eq_true rfl)⟩ ⟨rfl, rfl⟩ ⟨(Nat.le_of_ble_eq_true rfl), (Nat.le_of_ble_eq_true rfl)⟩ ?_
    rw [hv 0 (by decide)]
    obtain ⟨N, hN, -, eN, etN⟩ := tn60 (m := 60) rfl (ht rfl)
    rw [eN]
    refine V_cV_rV hC (cl_pass hWr hR hI (N := N) (by omega)) mkX1_pass lmX5_102 kX5_obeyCommand_227 (Nat.le_of_ble_eq_true rfl) rfl rfl rfl (Nat.le_of_ble_eq_true rfl) ⟨(Nat.le_of_ble_eq_true rfl), (Nat.le_of_ble_eq_true rfl)⟩ ⟨rfl, rfl⟩ ⟨(Nat.le_of_ble_eq_true rfl), (Nat.le_of_ble_eq_true rfl)⟩ (fun g227 h227 => ?_)
    refine V_iconst hC (1) kX5_obeyCommand_230 (by decide) ?_
    refine V_iretz hC rfl kX5_obeyCommand_231 ?_ ?_
    · first
    | exact Or.inl rfl
    | exact Or.inr rfl
    | exact b01_z _
    | (rw [h104.1]; exact b01_z _)
    | (rw [h114.1]; exact b01_z _)
    | (rw [h124.1]; exact b01_z _)
    | (rw [h137.1]; exact b01_z _)
    | (rw [h116.1]; exact b01_z _)
    | (rw [h143.1]; exact b01_z _)
    | (rw [h167.1]; exact b01_z _)
    | (rw [h194.1]; exact b01_z _)
    | (rw [h211.1]; exact b01_z _)
    · refine ⟨_, by with_reducible rfl, ?_, ?_, h227.2⟩
      · rw [obR_116]
        exact (b01_t (c := ¬ (if inn (v 0) 1 60 then F_ticks g (tn (v 0)) 7 - g 7 else -1) = -1) (fun z => (ite_tk hI).mp z (ht rfl))).symm
      · rw [obG_116, if_pos (ht rfl), etN]
        exact h227.1
