-- HOW cl_isPlace fI
-- HOW cl_isSpeed fI
-- HOW cl_isStrength fI
-- HOW cl_isTickCount fI
-- HOW cl_isSetting fI
-- HOW cl_isSlot fI
-- HOW cl_isSettingValue fI
-- HOW cl_shown fI
-- HOW cl_lbegin fV
-- HOW cl_lcopy fV
-- HOW cl_bcopy fV
-- HOW cl_lnum fI
-- HOW cl_bnum fI
-- HOW cl_bright fI
-- HOW cl_worth fI
-- HOW cl_bitCount fI
-- HOW cl_servedCount fI
-- HOW cl_takesHandedOn fI
-- HOW cl_takesOthers fI
-- HOW cl_bbegin fV
-- HOW cl_move fV
-- HOW cl_wishFor fV
-- HOW cl_lightR fR
-- HOW cl_lightN fR
-- HOW cl_boatR fR
-- HOW cl_boatN fR
-- HOW cl_setR fI
-- HOW cl_lightAt fR
-- HOW cl_lightAtNo fR
-- HOW cl_boatAt fR
-- HOW cl_boatAtNo fR
-- HOW cl_settingOf fI
-- HOW cl_servedBoats fI
-- HOW cl_talkingBoats fI
-- HOW cl_numberOf fI
-- HOW cl_brightest fI
-- HOW cl_isDark fI
-- HOW cl_freePlaces fI
-- HOW cl_lightFault fI
-- HOW cl_boatFault fI
-- HOW cl_steerFault fI
-- HOW cl_dimFault fI
-- HOW cl_leanFault fI
-- HOW cl_talkFault fI
-- HOW cl_putSpeed rI
-- HOW cl_putTalk rI
-- HOW cl_putLeaning rI
-- HOW cl_putStrength rI
-- HOW cl_putSetting rI
-- HOW cl_addLight rI
-- HOW cl_addBoat rI
-- HOW cl_tryLight rI
-- HOW cl_tryBoat rI
-- HOW cl_trySteer rI
-- HOW cl_tryTalk rI
-- HOW cl_tryLean rI
-- HOW cl_tryDim rI
-- HOW cl_serve rV
-- HOW cl_lose rV
-- HOW cl_bestWish fI
-- HOW cl_seekKeeper rV
-- HOW cl_ask rV
-- HOW cl_sail rV
-- HOW cl_pass rV
-- HOW cl_reset rV
-- HOW cl_copyFrom rV
-- HOW cl_stateAt fR
-- HOW cl_slotAt fR
-- HOW cl_hasStates fI
-- HOW cl_remember rV
-- HOW cl_takeBack rI
-- HOW cl_isKept fI
-- HOW cl_keep rV
-- HOW cl_bring rV
-- HOW cl_gained fI
-- HOW cl_dark fI
-- HOW cl_room fI
-- HOW cl_takeTurn rV
-- HOW cl_throwFault xV
-- HOW cf_about xI
-- HOW cf_lightOf xI
-- HOW cf_boatOf xI
-- HOW cf_bestAt xI
-- HOW cf_setting xI
-- HOW cf_light xI
-- HOW cf_boat xI
-- HOW cf_steer xI
-- HOW cf_talk xI
-- HOW cf_dim xI
-- HOW cf_set xI
-- HOW cf_ticks xI
-- HOW cf_undo xI
-- HOW cf_save xI
-- HOW cf_restore xI
-- HOW cf_simulate xI
-- HOW cf_border xI
-- HOW cp_low fI
/-! the law's own method holds: it answers true -/
theorem thS0 {g : Gs} {n : Nat} (h : HB g n) : F_thatN g 0 n + b01 (¬ R_boatOf g (nI n) 2 < 0) = F_thatN g 0 (n + 1) := by
  rw [F_thatN, if_pos rfl]
  congr 1
  exact b01_c h.2.2.2.2.2.2.2
theorem thS1 (g : Gs) (n : Nat) : F_thatN g 1 n + b01 (¬ R_boatOf g (nI n) 3 ≤ 0) = F_thatN g 1 (n + 1) := by
  rw [F_thatN, if_neg (by decide), RB3]
  congr 1
  exact b01_c Int32.not_le
theorem sbS7 {g : Gs} {n : Nat} (h : n < 8) : SB g 7 n + R_boatOf g (nI n) 7 = SB g 7 (n + 1) := by rw [SB, RB7, gB_7 g h]
theorem sbS8 {g : Gs} {n : Nat} (h : n < 8) : SB g 8 n + R_boatOf g (nI n) 8 = SB g 8 (n + 1) := by rw [SB, RB8, gB_8 g h]
theorem scS (g : Gs) (l : Nat) : SC g l + R_lightOf g (nI l) 4 = SC g (l + 1) := by rw [SC, RL4]
theorem stS {g : Gs} {l : Nat} (h : l < 6) : SLt g l + R_lightOf g (nI l) 8 = SLt g (l + 1) := by rw [SLt, RL8, gL_7 g h]
theorem svS {g : Gs} (hI : Inv g) {l k : Nat} (h : k < tn (g 5)) : F_servesN g (nI l) k + ((R_lightOf g (nI l) 7 >>> (nI k &&& 31)) &&& 1) = F_servesN g (nI l) (k + 1) := by rw [F_servesN, bit_s hI h]
def mtL_holds : Mt := (yL_holds, cL_holds, 13, (some .boolean), 8, 244, 200, 1200)
theorem kL_holds_0 : Dk mtL_holds 0 (.aload_n 0) 1 1 := ⟨by decide +kernel, rfl⟩
theorem kL_holds_1 : Dk mtL_holds 1 (.iconst 0) 1 2 := ⟨by decide +kernel, rfl⟩
theorem kL_holds_2 : Dk mtL_holds 2 (.invokevirtual 12) 3 5 := ⟨by decide +kernel, rfl⟩
theorem kL_holds_5 : Dk mtL_holds 5 (.istore_n 1) 1 6 := ⟨by decide +kernel, rfl⟩
theorem kL_holds_6 : Dk mtL_holds 6 (.aload_n 0) 1 7 := ⟨by decide +kernel, rfl⟩
theorem kL_holds_7 : Dk mtL_holds 7 (.iconst 1) 1 8 := ⟨by decide +kernel, rfl⟩
theorem kL_holds_8 : Dk mtL_holds 8 (.invokevirtual 12) 3 11 := ⟨by decide +kernel, rfl⟩
theorem kL_holds_11 : Dk mtL_holds 11 (.istore_n 2) 1 12 := ⟨by decide +kernel, rfl⟩
theorem kL_holds_12 : Dk mtL_holds 12 (.iconst 0) 1 13 := ⟨by decide +kernel, rfl⟩
theorem kL_holds_13 : Dk mtL_holds 13 (.istore_n 3) 1 14 := ⟨by decide +kernel, rfl⟩
theorem kL_holds_14 : Dk mtL_holds 14 (.iconst 0) 1 15 := ⟨by decide +kernel, rfl⟩
theorem kL_holds_15 : Dk mtL_holds 15 (.istore 4) 2 17 := ⟨by decide +kernel, rfl⟩
theorem kL_holds_17 : Dk mtL_holds 17 (.iconst 0) 1 18 := ⟨by decide +kernel, rfl⟩
theorem kL_holds_18 : Dk mtL_holds 18 (.istore 5) 2 20 := ⟨by decide +kernel, rfl⟩
theorem kL_holds_20 : Dk mtL_holds 20 (.iconst 0) 1 21 := ⟨by decide +kernel, rfl⟩
theorem kL_holds_21 : Dk mtL_holds 21 (.istore 6) 2 23 := ⟨by decide +kernel, rfl⟩
theorem kL_holds_23 : Dk mtL_holds 23 (.iconst 0) 1 24 := ⟨by decide +kernel, rfl⟩
theorem kL_holds_24 : Dk mtL_holds 24 (.istore 7) 2 26 := ⟨by decide +kernel, rfl⟩
theorem kL_holds_26 : Dk mtL_holds 26 (.iload 7) 2 28 := ⟨by decide +kernel, rfl⟩
theorem kL_holds_28 : Dk mtL_holds 28 (.iload_n 2) 1 29 := ⟨by decide +kernel, rfl⟩
theorem kL_holds_29 : Dk mtL_holds 29 (.if_icmp .ge 210) 3 32 := ⟨by decide +kernel, rfl⟩
theorem kL_holds_32 : Dk mtL_holds 32 (.aload_n 0) 1 33 := ⟨by decide +kernel, rfl⟩
theorem kL_holds_33 : Dk mtL_holds 33 (.iload 7) 2 35 := ⟨by decide +kernel, rfl⟩
theorem kL_holds_35 : Dk mtL_holds 35 (.iconst 2) 1 36 := ⟨by decide +kernel, rfl⟩
theorem kL_holds_36 : Dk mtL_holds 36 (.invokevirtual 22) 3 39 := ⟨by decide +kernel, rfl⟩
theorem kL_holds_39 : Dk mtL_holds 39 (.istore 8) 2 41 := ⟨by decide +kernel, rfl⟩
theorem kL_holds_41 : Dk mtL_holds 41 (.aload_n 0) 1 42 := ⟨by decide +kernel, rfl⟩
theorem kL_holds_42 : Dk mtL_holds 42 (.iload 7) 2 44 := ⟨by decide +kernel, rfl⟩
theorem kL_holds_44 : Dk mtL_holds 44 (.iconst 4) 1 45 := ⟨by decide +kernel, rfl⟩
theorem kL_holds_45 : Dk mtL_holds 45 (.invokevirtual 22) 3 48 := ⟨by decide +kernel, rfl⟩
theorem kL_holds_48 : Dk mtL_holds 48 (.istore 9) 2 50 := ⟨by decide +kernel, rfl⟩
theorem kL_holds_50 : Dk mtL_holds 50 (.iload_n 3) 1 51 := ⟨by decide +kernel, rfl⟩
theorem kL_holds_51 : Dk mtL_holds 51 (.iload 8) 2 53 := ⟨by decide +kernel, rfl⟩
theorem kL_holds_53 : Dk mtL_holds 53 (.ifCond .lt 7) 3 56 := ⟨by decide +kernel, rfl⟩
theorem kL_holds_56 : Dk mtL_holds 56 (.iconst 1) 1 57 := ⟨by decide +kernel, rfl⟩
theorem kL_holds_57 : Dk mtL_holds 57 (.goto 4) 3 60 := ⟨by decide +kernel, rfl⟩
theorem kL_holds_60 : Dk mtL_holds 60 (.iconst 0) 1 61 := ⟨by decide +kernel, rfl⟩
theorem kL_holds_61 : Dk mtL_holds 61 (.iadd) 1 62 := ⟨by decide +kernel, rfl⟩
theorem kL_holds_62 : Dk mtL_holds 62 (.istore_n 3) 1 63 := ⟨by decide +kernel, rfl⟩
theorem kL_holds_63 : Dk mtL_holds 63 (.iload 4) 2 65 := ⟨by decide +kernel, rfl⟩
theorem kL_holds_65 : Dk mtL_holds 65 (.aload_n 0) 1 66 := ⟨by decide +kernel, rfl⟩
theorem kL_holds_66 : Dk mtL_holds 66 (.iload 7) 2 68 := ⟨by decide +kernel, rfl⟩
theorem kL_holds_68 : Dk mtL_holds 68 (.iconst 3) 1 69 := ⟨by decide +kernel, rfl⟩
theorem kL_holds_69 : Dk mtL_holds 69 (.invokevirtual 22) 3 72 := ⟨by decide +kernel, rfl⟩
theorem kL_holds_72 : Dk mtL_holds 72 (.ifCond .le 7) 3 75 := ⟨by decide +kernel, rfl⟩
theorem kL_holds_75 : Dk mtL_holds 75 (.iconst 1) 1 76 := ⟨by decide +kernel, rfl⟩
theorem kL_holds_76 : Dk mtL_holds 76 (.goto 4) 3 79 := ⟨by decide +kernel, rfl⟩
theorem kL_holds_79 : Dk mtL_holds 79 (.iconst 0) 1 80 := ⟨by decide +kernel, rfl⟩
theorem kL_holds_80 : Dk mtL_holds 80 (.iadd) 1 81 := ⟨by decide +kernel, rfl⟩
theorem kL_holds_81 : Dk mtL_holds 81 (.istore 4) 2 83 := ⟨by decide +kernel, rfl⟩
theorem kL_holds_83 : Dk mtL_holds 83 (.iload 5) 2 85 := ⟨by decide +kernel, rfl⟩
theorem kL_holds_85 : Dk mtL_holds 85 (.aload_n 0) 1 86 := ⟨by decide +kernel, rfl⟩
theorem kL_holds_86 : Dk mtL_holds 86 (.iload 7) 2 88 := ⟨by decide +kernel, rfl⟩
theorem kL_holds_88 : Dk mtL_holds 88 (.bipush 7) 2 90 := ⟨by decide +kernel, rfl⟩
theorem kL_holds_90 : Dk mtL_holds 90 (.invokevirtual 22) 3 93 := ⟨by decide +kernel, rfl⟩
theorem kL_holds_93 : Dk mtL_holds 93 (.iadd) 1 94 := ⟨by decide +kernel, rfl⟩
theorem kL_holds_94 : Dk mtL_holds 94 (.istore 5) 2 96 := ⟨by decide +kernel, rfl⟩
theorem kL_holds_96 : Dk mtL_holds 96 (.iload 6) 2 98 := ⟨by decide +kernel, rfl⟩
theorem kL_holds_98 : Dk mtL_holds 98 (.aload_n 0) 1 99 := ⟨by decide +kernel, rfl⟩
theorem kL_holds_99 : Dk mtL_holds 99 (.iload 7) 2 101 := ⟨by decide +kernel, rfl⟩
theorem kL_holds_101 : Dk mtL_holds 101 (.bipush 8) 2 103 := ⟨by decide +kernel, rfl⟩
theorem kL_holds_103 : Dk mtL_holds 103 (.invokevirtual 22) 3 106 := ⟨by decide +kernel, rfl⟩
theorem kL_holds_106 : Dk mtL_holds 106 (.iadd) 1 107 := ⟨by decide +kernel, rfl⟩
theorem kL_holds_107 : Dk mtL_holds 107 (.istore 6) 2 109 := ⟨by decide +kernel, rfl⟩
theorem kL_holds_109 : Dk mtL_holds 109 (.aload_n 0) 1 110 := ⟨by decide +kernel, rfl⟩
theorem kL_holds_110 : Dk mtL_holds 110 (.iload 7) 2 112 := ⟨by decide +kernel, rfl⟩
theorem kL_holds_112 : Dk mtL_holds 112 (.iconst 0) 1 113 := ⟨by decide +kernel, rfl⟩
theorem kL_holds_113 : Dk mtL_holds 113 (.invokevirtual 22) 3 116 := ⟨by decide +kernel, rfl⟩
theorem kL_holds_116 : Dk mtL_holds 116 (.ifCond .lt 26) 3 119 := ⟨by decide +kernel, rfl⟩
theorem kL_holds_119 : Dk mtL_holds 119 (.aload_n 0) 1 120 := ⟨by decide +kernel, rfl⟩
theorem kL_holds_120 : Dk mtL_holds 120 (.iload 7) 2 122 := ⟨by decide +kernel, rfl⟩
theorem kL_holds_122 : Dk mtL_holds 122 (.iconst 0) 1 123 := ⟨by decide +kernel, rfl⟩
theorem kL_holds_123 : Dk mtL_holds 123 (.invokevirtual 22) 3 126 := ⟨by decide +kernel, rfl⟩
theorem kL_holds_126 : Dk mtL_holds 126 (.sipush 200) 3 129 := ⟨by decide +kernel, rfl⟩
theorem kL_holds_129 : Dk mtL_holds 129 (.if_icmp .ge 13) 3 132 := ⟨by decide +kernel, rfl⟩
theorem kL_holds_132 : Dk mtL_holds 132 (.iload 8) 2 134 := ⟨by decide +kernel, rfl⟩
theorem kL_holds_134 : Dk mtL_holds 134 (.iload_n 1) 1 135 := ⟨by decide +kernel, rfl⟩
theorem kL_holds_135 : Dk mtL_holds 135 (.if_icmp .ge 7) 3 138 := ⟨by decide +kernel, rfl⟩
theorem kL_holds_138 : Dk mtL_holds 138 (.iconst 1) 1 139 := ⟨by decide +kernel, rfl⟩
theorem kL_holds_139 : Dk mtL_holds 139 (.goto 4) 3 142 := ⟨by decide +kernel, rfl⟩
theorem kL_holds_142 : Dk mtL_holds 142 (.iconst 0) 1 143 := ⟨by decide +kernel, rfl⟩
theorem kL_holds_143 : Dk mtL_holds 143 (.istore 10) 2 145 := ⟨by decide +kernel, rfl⟩
theorem kL_holds_145 : Dk mtL_holds 145 (.iload 10) 2 147 := ⟨by decide +kernel, rfl⟩
theorem kL_holds_147 : Dk mtL_holds 147 (.ifCond .eq 84) 3 150 := ⟨by decide +kernel, rfl⟩
theorem kL_holds_150 : Dk mtL_holds 150 (.aload_n 0) 1 151 := ⟨by decide +kernel, rfl⟩
theorem kL_holds_151 : Dk mtL_holds 151 (.iload 7) 2 153 := ⟨by decide +kernel, rfl⟩
theorem kL_holds_153 : Dk mtL_holds 153 (.iconst 3) 1 154 := ⟨by decide +kernel, rfl⟩
theorem kL_holds_154 : Dk mtL_holds 154 (.invokevirtual 22) 3 157 := ⟨by decide +kernel, rfl⟩
theorem kL_holds_157 : Dk mtL_holds 157 (.ifCond .le 8) 3 160 := ⟨by decide +kernel, rfl⟩
theorem kL_holds_160 : Dk mtL_holds 160 (.iload 8) 2 162 := ⟨by decide +kernel, rfl⟩
theorem kL_holds_162 : Dk mtL_holds 162 (.ifCond .lt 69) 3 165 := ⟨by decide +kernel, rfl⟩
theorem kL_holds_165 : Dk mtL_holds 165 (.iload 9) 2 167 := ⟨by decide +kernel, rfl⟩
theorem kL_holds_167 : Dk mtL_holds 167 (.ifCond .lt 15) 3 170 := ⟨by decide +kernel, rfl⟩
theorem kL_holds_170 : Dk mtL_holds 170 (.iload 8) 2 172 := ⟨by decide +kernel, rfl⟩
theorem kL_holds_172 : Dk mtL_holds 172 (.ifCond .lt 59) 3 175 := ⟨by decide +kernel, rfl⟩
theorem kL_holds_175 : Dk mtL_holds 175 (.iload 8) 2 177 := ⟨by decide +kernel, rfl⟩
theorem kL_holds_177 : Dk mtL_holds 177 (.iload 9) 2 179 := ⟨by decide +kernel, rfl⟩
theorem kL_holds_179 : Dk mtL_holds 179 (.if_icmp .eq 52) 3 182 := ⟨by decide +kernel, rfl⟩
theorem kL_holds_182 : Dk mtL_holds 182 (.iload 9) 2 184 := ⟨by decide +kernel, rfl⟩
theorem kL_holds_184 : Dk mtL_holds 184 (.ifCond .lt 7) 3 187 := ⟨by decide +kernel, rfl⟩
theorem kL_holds_187 : Dk mtL_holds 187 (.iconst 1) 1 188 := ⟨by decide +kernel, rfl⟩
theorem kL_holds_188 : Dk mtL_holds 188 (.goto 4) 3 191 := ⟨by decide +kernel, rfl⟩
theorem kL_holds_191 : Dk mtL_holds 191 (.iconst 0) 1 192 := ⟨by decide +kernel, rfl⟩
theorem kL_holds_192 : Dk mtL_holds 192 (.aload_n 0) 1 193 := ⟨by decide +kernel, rfl⟩
theorem kL_holds_193 : Dk mtL_holds 193 (.iload 7) 2 195 := ⟨by decide +kernel, rfl⟩
theorem kL_holds_195 : Dk mtL_holds 195 (.iconst 5) 1 196 := ⟨by decide +kernel, rfl⟩
theorem kL_holds_196 : Dk mtL_holds 196 (.invokevirtual 22) 3 199 := ⟨by decide +kernel, rfl⟩
theorem kL_holds_199 : Dk mtL_holds 199 (.ifCond .le 7) 3 202 := ⟨by decide +kernel, rfl⟩
theorem kL_holds_202 : Dk mtL_holds 202 (.iconst 1) 1 203 := ⟨by decide +kernel, rfl⟩
theorem kL_holds_203 : Dk mtL_holds 203 (.goto 4) 3 206 := ⟨by decide +kernel, rfl⟩
theorem kL_holds_206 : Dk mtL_holds 206 (.iconst 0) 1 207 := ⟨by decide +kernel, rfl⟩
theorem kL_holds_207 : Dk mtL_holds 207 (.if_icmp .ne 24) 3 210 := ⟨by decide +kernel, rfl⟩
theorem kL_holds_210 : Dk mtL_holds 210 (.iload 8) 2 212 := ⟨by decide +kernel, rfl⟩
theorem kL_holds_212 : Dk mtL_holds 212 (.ifCond .lt 21) 3 215 := ⟨by decide +kernel, rfl⟩
theorem kL_holds_215 : Dk mtL_holds 215 (.aload_n 0) 1 216 := ⟨by decide +kernel, rfl⟩
theorem kL_holds_216 : Dk mtL_holds 216 (.iload 8) 2 218 := ⟨by decide +kernel, rfl⟩
theorem kL_holds_218 : Dk mtL_holds 218 (.bipush 7) 2 220 := ⟨by decide +kernel, rfl⟩
theorem kL_holds_220 : Dk mtL_holds 220 (.invokevirtual 18) 3 223 := ⟨by decide +kernel, rfl⟩
theorem kL_holds_223 : Dk mtL_holds 223 (.iload 7) 2 225 := ⟨by decide +kernel, rfl⟩
theorem kL_holds_225 : Dk mtL_holds 225 (.ishr) 1 226 := ⟨by decide +kernel, rfl⟩
theorem kL_holds_226 : Dk mtL_holds 226 (.iconst 1) 1 227 := ⟨by decide +kernel, rfl⟩
theorem kL_holds_227 : Dk mtL_holds 227 (.iand) 1 228 := ⟨by decide +kernel, rfl⟩
theorem kL_holds_228 : Dk mtL_holds 228 (.ifCond .ne 5) 3 231 := ⟨by decide +kernel, rfl⟩
theorem kL_holds_231 : Dk mtL_holds 231 (.iconst 0) 1 232 := ⟨by decide +kernel, rfl⟩
theorem kL_holds_232 : Dk mtL_holds 232 (.ireturn) 1 233 := ⟨by decide +kernel, rfl⟩
theorem kL_holds_233 : Dk mtL_holds 233 (.iinc 7 1) 3 236 := ⟨by decide +kernel, rfl⟩
theorem kL_holds_236 : Dk mtL_holds 236 (.goto (-210)) 3 239 := ⟨by decide +kernel, rfl⟩
theorem kL_holds_239 : Dk mtL_holds 239 (.iconst 0) 1 240 := ⟨by decide +kernel, rfl⟩
theorem kL_holds_240 : Dk mtL_holds 240 (.istore 7) 2 242 := ⟨by decide +kernel, rfl⟩
theorem kL_holds_242 : Dk mtL_holds 242 (.iconst 0) 1 243 := ⟨by decide +kernel, rfl⟩
theorem kL_holds_243 : Dk mtL_holds 243 (.istore 8) 2 245 := ⟨by decide +kernel, rfl⟩
theorem kL_holds_245 : Dk mtL_holds 245 (.iconst 0) 1 246 := ⟨by decide +kernel, rfl⟩
theorem kL_holds_246 : Dk mtL_holds 246 (.istore 9) 2 248 := ⟨by decide +kernel, rfl⟩
theorem kL_holds_248 : Dk mtL_holds 248 (.iconst 0) 1 249 := ⟨by decide +kernel, rfl⟩
theorem kL_holds_249 : Dk mtL_holds 249 (.istore 10) 2 251 := ⟨by decide +kernel, rfl⟩
theorem kL_holds_251 : Dk mtL_holds 251 (.iload 10) 2 253 := ⟨by decide +kernel, rfl⟩
theorem kL_holds_253 : Dk mtL_holds 253 (.iload_n 1) 1 254 := ⟨by decide +kernel, rfl⟩
theorem kL_holds_254 : Dk mtL_holds 254 (.if_icmp .ge 91) 3 257 := ⟨by decide +kernel, rfl⟩
theorem kL_holds_257 : Dk mtL_holds 257 (.iconst 0) 1 258 := ⟨by decide +kernel, rfl⟩
theorem kL_holds_258 : Dk mtL_holds 258 (.istore 11) 2 260 := ⟨by decide +kernel, rfl⟩
theorem kL_holds_260 : Dk mtL_holds 260 (.iconst 0) 1 261 := ⟨by decide +kernel, rfl⟩
theorem kL_holds_261 : Dk mtL_holds 261 (.istore 12) 2 263 := ⟨by decide +kernel, rfl⟩
theorem kL_holds_263 : Dk mtL_holds 263 (.iload 12) 2 265 := ⟨by decide +kernel, rfl⟩
theorem kL_holds_265 : Dk mtL_holds 265 (.iload_n 2) 1 266 := ⟨by decide +kernel, rfl⟩
theorem kL_holds_266 : Dk mtL_holds 266 (.if_icmp .ge 27) 3 269 := ⟨by decide +kernel, rfl⟩
theorem kL_holds_269 : Dk mtL_holds 269 (.iload 11) 2 271 := ⟨by decide +kernel, rfl⟩
theorem kL_holds_271 : Dk mtL_holds 271 (.aload_n 0) 1 272 := ⟨by decide +kernel, rfl⟩
theorem kL_holds_272 : Dk mtL_holds 272 (.iload 10) 2 274 := ⟨by decide +kernel, rfl⟩
theorem kL_holds_274 : Dk mtL_holds 274 (.bipush 7) 2 276 := ⟨by decide +kernel, rfl⟩
theorem kL_holds_276 : Dk mtL_holds 276 (.invokevirtual 18) 3 279 := ⟨by decide +kernel, rfl⟩
theorem kL_holds_279 : Dk mtL_holds 279 (.iload 12) 2 281 := ⟨by decide +kernel, rfl⟩
theorem kL_holds_281 : Dk mtL_holds 281 (.ishr) 1 282 := ⟨by decide +kernel, rfl⟩
theorem kL_holds_282 : Dk mtL_holds 282 (.iconst 1) 1 283 := ⟨by decide +kernel, rfl⟩
theorem kL_holds_283 : Dk mtL_holds 283 (.iand) 1 284 := ⟨by decide +kernel, rfl⟩
theorem kL_holds_284 : Dk mtL_holds 284 (.iadd) 1 285 := ⟨by decide +kernel, rfl⟩
theorem kL_holds_285 : Dk mtL_holds 285 (.istore 11) 2 287 := ⟨by decide +kernel, rfl⟩
theorem kL_holds_287 : Dk mtL_holds 287 (.iinc 12 1) 3 290 := ⟨by decide +kernel, rfl⟩
theorem kL_holds_290 : Dk mtL_holds 290 (.goto (-27)) 3 293 := ⟨by decide +kernel, rfl⟩
theorem kL_holds_293 : Dk mtL_holds 293 (.iload 8) 2 295 := ⟨by decide +kernel, rfl⟩
theorem kL_holds_295 : Dk mtL_holds 295 (.iload 11) 2 297 := ⟨by decide +kernel, rfl⟩
theorem kL_holds_297 : Dk mtL_holds 297 (.iadd) 1 298 := ⟨by decide +kernel, rfl⟩
theorem kL_holds_298 : Dk mtL_holds 298 (.istore 8) 2 300 := ⟨by decide +kernel, rfl⟩
theorem kL_holds_300 : Dk mtL_holds 300 (.iload 7) 2 302 := ⟨by decide +kernel, rfl⟩
theorem kL_holds_302 : Dk mtL_holds 302 (.aload_n 0) 1 303 := ⟨by decide +kernel, rfl⟩
theorem kL_holds_303 : Dk mtL_holds 303 (.iload 10) 2 305 := ⟨by decide +kernel, rfl⟩
theorem kL_holds_305 : Dk mtL_holds 305 (.iconst 4) 1 306 := ⟨by decide +kernel, rfl⟩
theorem kL_holds_306 : Dk mtL_holds 306 (.invokevirtual 18) 3 309 := ⟨by decide +kernel, rfl⟩
theorem kL_holds_309 : Dk mtL_holds 309 (.iadd) 1 310 := ⟨by decide +kernel, rfl⟩
theorem kL_holds_310 : Dk mtL_holds 310 (.istore 7) 2 312 := ⟨by decide +kernel, rfl⟩
theorem kL_holds_312 : Dk mtL_holds 312 (.iload 9) 2 314 := ⟨by decide +kernel, rfl⟩
theorem kL_holds_314 : Dk mtL_holds 314 (.aload_n 0) 1 315 := ⟨by decide +kernel, rfl⟩
theorem kL_holds_315 : Dk mtL_holds 315 (.iload 10) 2 317 := ⟨by decide +kernel, rfl⟩
theorem kL_holds_317 : Dk mtL_holds 317 (.bipush 8) 2 319 := ⟨by decide +kernel, rfl⟩
theorem kL_holds_319 : Dk mtL_holds 319 (.invokevirtual 18) 3 322 := ⟨by decide +kernel, rfl⟩
theorem kL_holds_322 : Dk mtL_holds 322 (.iadd) 1 323 := ⟨by decide +kernel, rfl⟩
theorem kL_holds_323 : Dk mtL_holds 323 (.istore 9) 2 325 := ⟨by decide +kernel, rfl⟩
theorem kL_holds_325 : Dk mtL_holds 325 (.iload 11) 2 327 := ⟨by decide +kernel, rfl⟩
theorem kL_holds_327 : Dk mtL_holds 327 (.aload_n 0) 1 328 := ⟨by decide +kernel, rfl⟩
theorem kL_holds_328 : Dk mtL_holds 328 (.iload 10) 2 330 := ⟨by decide +kernel, rfl⟩
theorem kL_holds_330 : Dk mtL_holds 330 (.iconst 4) 1 331 := ⟨by decide +kernel, rfl⟩
theorem kL_holds_331 : Dk mtL_holds 331 (.invokevirtual 18) 3 334 := ⟨by decide +kernel, rfl⟩
theorem kL_holds_334 : Dk mtL_holds 334 (.if_icmp .le 5) 3 337 := ⟨by decide +kernel, rfl⟩
theorem kL_holds_337 : Dk mtL_holds 337 (.iconst 0) 1 338 := ⟨by decide +kernel, rfl⟩
theorem kL_holds_338 : Dk mtL_holds 338 (.ireturn) 1 339 := ⟨by decide +kernel, rfl⟩
theorem kL_holds_339 : Dk mtL_holds 339 (.iinc 10 1) 3 342 := ⟨by decide +kernel, rfl⟩
theorem kL_holds_342 : Dk mtL_holds 342 (.goto (-91)) 3 345 := ⟨by decide +kernel, rfl⟩
theorem kL_holds_345 : Dk mtL_holds 345 (.iload 8) 2 347 := ⟨by decide +kernel, rfl⟩
theorem kL_holds_347 : Dk mtL_holds 347 (.iload_n 3) 1 348 := ⟨by decide +kernel, rfl⟩
theorem kL_holds_348 : Dk mtL_holds 348 (.if_icmp .ne 72) 3 351 := ⟨by decide +kernel, rfl⟩
theorem kL_holds_351 : Dk mtL_holds 351 (.aload_n 0) 1 352 := ⟨by decide +kernel, rfl⟩
theorem kL_holds_352 : Dk mtL_holds 352 (.iconst 3) 1 353 := ⟨by decide +kernel, rfl⟩
theorem kL_holds_353 : Dk mtL_holds 353 (.invokevirtual 12) 3 356 := ⟨by decide +kernel, rfl⟩
theorem kL_holds_356 : Dk mtL_holds 356 (.iload_n 3) 1 357 := ⟨by decide +kernel, rfl⟩
theorem kL_holds_357 : Dk mtL_holds 357 (.if_icmp .ne 63) 3 360 := ⟨by decide +kernel, rfl⟩
theorem kL_holds_360 : Dk mtL_holds 360 (.aload_n 0) 1 361 := ⟨by decide +kernel, rfl⟩
theorem kL_holds_361 : Dk mtL_holds 361 (.iconst 4) 1 362 := ⟨by decide +kernel, rfl⟩
theorem kL_holds_362 : Dk mtL_holds 362 (.invokevirtual 12) 3 365 := ⟨by decide +kernel, rfl⟩
theorem kL_holds_365 : Dk mtL_holds 365 (.iload 4) 2 367 := ⟨by decide +kernel, rfl⟩
theorem kL_holds_367 : Dk mtL_holds 367 (.if_icmp .ne 53) 3 370 := ⟨by decide +kernel, rfl⟩
theorem kL_holds_370 : Dk mtL_holds 370 (.aload_n 0) 1 371 := ⟨by decide +kernel, rfl⟩
theorem kL_holds_371 : Dk mtL_holds 371 (.iconst 5) 1 372 := ⟨by decide +kernel, rfl⟩
theorem kL_holds_372 : Dk mtL_holds 372 (.invokevirtual 12) 3 375 := ⟨by decide +kernel, rfl⟩
theorem kL_holds_375 : Dk mtL_holds 375 (.iload 5) 2 377 := ⟨by decide +kernel, rfl⟩
theorem kL_holds_377 : Dk mtL_holds 377 (.if_icmp .ne 43) 3 380 := ⟨by decide +kernel, rfl⟩
theorem kL_holds_380 : Dk mtL_holds 380 (.iload 9) 2 382 := ⟨by decide +kernel, rfl⟩
theorem kL_holds_382 : Dk mtL_holds 382 (.iload 5) 2 384 := ⟨by decide +kernel, rfl⟩
theorem kL_holds_384 : Dk mtL_holds 384 (.if_icmp .ne 36) 3 387 := ⟨by decide +kernel, rfl⟩
theorem kL_holds_387 : Dk mtL_holds 387 (.aload_n 0) 1 388 := ⟨by decide +kernel, rfl⟩
theorem kL_holds_388 : Dk mtL_holds 388 (.bipush 6) 2 390 := ⟨by decide +kernel, rfl⟩
theorem kL_holds_390 : Dk mtL_holds 390 (.invokevirtual 12) 3 393 := ⟨by decide +kernel, rfl⟩
theorem kL_holds_393 : Dk mtL_holds 393 (.iload 6) 2 395 := ⟨by decide +kernel, rfl⟩
theorem kL_holds_395 : Dk mtL_holds 395 (.if_icmp .ne 25) 3 398 := ⟨by decide +kernel, rfl⟩
theorem kL_holds_398 : Dk mtL_holds 398 (.iload 6) 2 400 := ⟨by decide +kernel, rfl⟩
theorem kL_holds_400 : Dk mtL_holds 400 (.iload 5) 2 402 := ⟨by decide +kernel, rfl⟩
theorem kL_holds_402 : Dk mtL_holds 402 (.if_icmp .gt 18) 3 405 := ⟨by decide +kernel, rfl⟩
theorem kL_holds_405 : Dk mtL_holds 405 (.aload_n 0) 1 406 := ⟨by decide +kernel, rfl⟩
theorem kL_holds_406 : Dk mtL_holds 406 (.invokevirtual 55) 3 409 := ⟨by decide +kernel, rfl⟩
theorem kL_holds_409 : Dk mtL_holds 409 (.iload_n 3) 1 410 := ⟨by decide +kernel, rfl⟩
theorem kL_holds_410 : Dk mtL_holds 410 (.iadd) 1 411 := ⟨by decide +kernel, rfl⟩
theorem kL_holds_411 : Dk mtL_holds 411 (.iload 7) 2 413 := ⟨by decide +kernel, rfl⟩
theorem kL_holds_413 : Dk mtL_holds 413 (.if_icmp .ne 7) 3 416 := ⟨by decide +kernel, rfl⟩
theorem kL_holds_416 : Dk mtL_holds 416 (.iconst 1) 1 417 := ⟨by decide +kernel, rfl⟩
theorem kL_holds_417 : Dk mtL_holds 417 (.goto 4) 3 420 := ⟨by decide +kernel, rfl⟩
theorem kL_holds_420 : Dk mtL_holds 420 (.iconst 0) 1 421 := ⟨by decide +kernel, rfl⟩
theorem kL_holds_421 : Dk mtL_holds 421 (.ireturn) 1 422 := ⟨by decide +kernel, rfl⟩
theorem lmL_55 : LkM RL 55 mtX5_room := Or.inl (by decide +kernel)
theorem mkX5_room : MkV mtX5_room 0 := ⟨List.mem_of_getElem? (i := 732) (by decide +kernel), by decide +kernel, by decide +kernel, by decide +kernel, ⟨by decide +kernel, by decide +kernel, by decide +kernel⟩⟩
set_option maxHeartbeats 4000000 in
set_option maxRecDepth 100000 in
theorem cp_holds {l : Launch} {w : Wd} {sg : Sg} (hWr : Wr w) (hl0 : l.stackTraces = false) {x : Nat} {g : Gs} (hR : Rel sg (x + 4) g) {B : Nat} (hJ : J B g) (hB : B ≤ 100000) : MX l mtL_holds w [vR (some (5, 0, x))] sg (fun r g2 => r = some (vI 1) ∧ g2 = sg) (pF) := by
  refine MX_of hl0 [some (vR (some (5, 0, x))), none, none, none, none, none, none, none, none, none, none, none, none] rfl (Nat.le_of_ble_eq_true rfl) (by decide +kernel) ?_
  intro p_ e_ s_ m_ args_ below_ meth_ c_ hC hX hO
  have hI := hJ.1
  have hm4 := hI.m4.2
  have hm5 := hI.m5.2
  refine V_aload_n hC kL_holds_0 rfl ?_
  refine V_iconst hC (0) kL_holds_1 (by decide) ?_
  refine V_cVf hC hX.1 (cf_about hWr hl0 (0) hR hI) (fun _ _ h => h.1) (Ka_0 (n := 0) (by decide)) mkX5_about lxL_12 kL_holds_2 (Nat.le_of_ble_eq_true rfl) rfl rfl rfl (Nat.le_of_ble_eq_true rfl) ⟨(Nat.le_of_ble_eq_true rfl), (Nat.le_of_ble_eq_true rfl)⟩ ⟨rfl, rfl⟩ ⟨(by show _ ≤ 200; omega), (by show _ ≤ 1200; omega)⟩ ?_
  rw [tells0]
  refine V_istore_n hC [some _, some _, none, none, none, none, none, none, none, none, none, none, none] kL_holds_5 rfl (Nat.le_of_ble_eq_true rfl) ?_
  refine V_aload_n hC kL_holds_6 rfl ?_
  refine V_iconst hC (1) kL_holds_7 (by decide) ?_
  refine V_cVf hC hX.1 (cf_about hWr hl0 (1) hR hI) (fun _ _ h => h.1) (Ka_0 (n := 1) (by decide)) mkX5_about lxL_12 kL_holds_8 (Nat.le_of_ble_eq_true rfl) rfl rfl rfl (Nat.le_of_ble_eq_true rfl) ⟨(Nat.le_of_ble_eq_true rfl), (Nat.le_of_ble_eq_true rfl)⟩ ⟨rfl, rfl⟩ ⟨(by show _ ≤ 200; omega), (by show _ ≤ 1200; omega)⟩ ?_
  rw [tells1]
  refine V_istore_n hC [some _, some _, some _, none, none, none, none, none, none, none, none, none, none] kL_holds_11 rfl (Nat.le_of_ble_eq_true rfl) ?_
  refine V_iconst hC (0) kL_holds_12 (by decide) ?_
  refine V_istore_n hC [some _, some _, some _, some _, none, none, none, none, none, none, none, none, none] kL_holds_13 rfl (Nat.le_of_ble_eq_true rfl) ?_
  refine V_iconst hC (0) kL_holds_14 (by decide) ?_
  refine V_istore hC [some _, some _, some _, some _, some _, none, none, none, none, none, none, none, none] kL_holds_15 rfl (Nat.le_of_ble_eq_true rfl) ?_
  refine V_iconst hC (0) kL_holds_17 (by decide) ?_
  refine V_istore hC [some _, some _, some _, some _, some _, some _, none, none, none, none, none, none, none] kL_holds_18 rfl (Nat.le_of_ble_eq_true rfl) ?_
  refine V_iconst hC (0) kL_holds_20 (by decide) ?_
  refine V_istore hC [some _, some _, some _, some _, some _, some _, some _, none, none, none, none, none, none] kL_holds_21 rfl (Nat.le_of_ble_eq_true rfl) ?_
  refine V_iconst hC (0) kL_holds_23 (by decide) ?_
  refine V_istore hC [some _, some _, some _, some _, some _, some _, some _, some _, none, none, none, none, none] kL_holds_24 rfl (Nat.le_of_ble_eq_true rfl) ?_
  refine V_loopC (tn (g 5)) (fun i => 2 + 10 * i) (fun i => 6 * (2 + 10 * i)) (fun i => [some (vR (some (5, 0, x))), some (vI (g 4)), some (vI (g 5)), some (vI (F_thatN g 0 i)), some (vI (F_thatN g 1 i)), some (vI (SB g 7 i)), some (vI (SB g 8 i)), some (vI (nI i)), none, none, none, none, none]) rfl ⟨(by omega), (by omega)⟩ ?_ (fun i hi ihi => ?_)
  · refine V_iload hC kL_holds_26 rfl ?_
    refine V_iload_n hC kL_holds_28 rfl ?_
    refine V_icmp_ge hC 239 kL_holds_29 (by decide) (fun h29 => ?_) (fun h29 => absurd h29 (not_not_intro (cnt_le hI.hc5.1)))
    refine V_iconst hC (0) kL_holds_239 (by decide) ?_
    refine V_istore hC [some _, some _, some _, some _, some _, some _, some _, some _, none, none, none, none, none] kL_holds_240 rfl (Nat.le_of_ble_eq_true rfl) ?_
    refine V_iconst hC (0) kL_holds_242 (by decide) ?_
    refine V_istore hC [some _, some _, some _, some _, some _, some _, some _, some _, some _, none, none, none, none] kL_holds_243 rfl (Nat.le_of_ble_eq_true rfl) ?_
    refine V_iconst hC (0) kL_holds_245 (by decide) ?_
    refine V_istore hC [some _, some _, some _, some _, some _, some _, some _, some _, some _, some _, none, none, none] kL_holds_246 rfl (Nat.le_of_ble_eq_true rfl) ?_
    refine V_iconst hC (0) kL_holds_248 (by decide) ?_
    refine V_istore hC [some _, some _, some _, some _, some _, some _, some _, some _, some _, some _, some _, none, none] kL_holds_249 rfl (Nat.le_of_ble_eq_true rfl) ?_
    refine V_wd (k := 82) (n := 492) ⟨(by omega), (by omega)⟩ ?_
    refine V_loopC (tn (g 4)) (fun k => 82 + 12 * k) (fun k => 6 * (82 + 12 * k)) (fun k => [some (vR (some (5, 0, x))), some (vI (g 4)), some (vI (g 5)), some (vI (F_thatN g 0 (tn (g 5)))), some (vI (F_thatN g 1 (tn (g 5)))), some (vI (SB g 7 (tn (g 5)))), some (vI (SB g 8 (tn (g 5)))), some (vI (SC g k)), some (vI (SA g (tn (g 5)) k)), some (vI (SLt g k)), some (vI (nI k)), none, none]) rfl ⟨(by omega), (by omega)⟩ ?_ (fun k hk ihk => ?_)
    · refine V_iload hC kL_holds_251 rfl ?_
      refine V_iload_n hC kL_holds_253 rfl ?_
      refine V_icmp_ge hC 345 kL_holds_254 (by decide) (fun h254 => ?_) (fun h254 => absurd h254 (not_not_intro (cnt_le hI.hc4.1)))
      refine V_iload hC kL_holds_345 rfl ?_
      refine V_iload_n hC kL_holds_347 rfl ?_
      refine V_icmp_ne hC 420 kL_holds_348 (by decide) (fun h348 => absurd h348 (not_not_intro (SA_all hI _ (Nat.le_refl _)))) (fun h348 => ?_)
      refine V_aload_n hC kL_holds_351 rfl ?_
      refine V_iconst hC (3) kL_holds_352 (by decide) ?_
      refine V_cVf hC hX.1 (cf_about hWr hl0 (3) hR hI) (fun _ _ h => h.1) (Ka_0 (n := 3) (by decide)) mkX5_about lxL_12 kL_holds_353 (Nat.le_of_ble_eq_true rfl) rfl rfl rfl (Nat.le_of_ble_eq_true rfl) ⟨(Nat.le_of_ble_eq_true rfl), (Nat.le_of_ble_eq_true rfl)⟩ ⟨rfl, rfl⟩ ⟨(by show _ ≤ 200; omega), (by show _ ≤ 1200; omega)⟩ ?_
      refine V_iload_n hC kL_holds_356 rfl ?_
      refine V_icmp_ne hC 420 kL_holds_357 (by decide) (fun h357 => absurd h357 (not_not_intro (tells3 g))) (fun h357 => ?_)
      refine V_aload_n hC kL_holds_360 rfl ?_
      refine V_iconst hC (4) kL_holds_361 (by decide) ?_
      refine V_cVf hC hX.1 (cf_about hWr hl0 (4) hR hI) (fun _ _ h => h.1) (Ka_0 (n := 4) (by decide)) mkX5_about lxL_12 kL_holds_362 (Nat.le_of_ble_eq_true rfl) rfl rfl rfl (Nat.le_of_ble_eq_true rfl) ⟨(Nat.le_of_ble_eq_true rfl), (Nat.le_of_ble_eq_true rfl)⟩ ⟨rfl, rfl⟩ ⟨(by show _ ≤ 200; omega), (by show _ ≤ 1200; omega)⟩ ?_
      refine V_iload hC kL_holds_365 rfl ?_
      refine V_icmp_ne hC 420 kL_holds_367 (by decide) (fun h367 => absurd h367 (not_not_intro (tells4 g))) (fun h367 => ?_)
      refine V_aload_n hC kL_holds_370 rfl ?_
      refine V_iconst hC (5) kL_holds_371 (by decide) ?_
      refine V_cVf hC hX.1 (cf_about hWr hl0 (5) hR hI) (fun _ _ h => h.1) (Ka_0 (n := 5) (by decide)) mkX5_about lxL_12 kL_holds_372 (Nat.le_of_ble_eq_true rfl) rfl rfl rfl (Nat.le_of_ble_eq_true rfl) ⟨(Nat.le_of_ble_eq_true rfl), (Nat.le_of_ble_eq_true rfl)⟩ ⟨rfl, rfl⟩ ⟨(by show _ ≤ 200; omega), (by show _ ≤ 1200; omega)⟩ ?_
      refine V_iload hC kL_holds_375 rfl ?_
      refine V_icmp_ne hC 420 kL_holds_377 (by decide) (fun h377 => absurd h377 (not_not_intro ((tells5 g).trans (sum7 hJ).symm))) (fun h377 => ?_)
      refine V_iload hC kL_holds_380 rfl ?_
      refine V_iload hC kL_holds_382 rfl ?_
      refine V_icmp_ne hC 420 kL_holds_384 (by decide) (fun h384 => absurd h384 (not_not_intro ((sumL hJ).trans (sum7 hJ).symm))) (fun h384 => ?_)
      refine V_aload_n hC kL_holds_387 rfl ?_
      refine V_bipush hC (6) kL_holds_388 (by decide) ?_
      refine V_cVf hC hX.1 (cf_about hWr hl0 (6) hR hI) (fun _ _ h => h.1) (Ka_0 (n := 6) (by decide)) mkX5_about lxL_12 kL_holds_390 (Nat.le_of_ble_eq_true rfl) rfl rfl rfl (Nat.le_of_ble_eq_true rfl) ⟨(Nat.le_of_ble_eq_true rfl), (Nat.le_of_ble_eq_true rfl)⟩ ⟨rfl, rfl⟩ ⟨(by show _ ≤ 200; omega), (by show _ ≤ 1200; omega)⟩ ?_
      refine V_iload hC kL_holds_393 rfl ?_
      refine V_icmp_ne hC 420 kL_holds_395 (by decide) (fun h395 => absurd h395 (not_not_intro ((tells6 g).trans (sum8 hJ).symm))) (fun h395 => ?_)
      refine V_iload hC kL_holds_398 rfl ?_
      refine V_iload hC kL_holds_400 rfl ?_
      refine V_icmp_gt hC 420 kL_holds_402 (by decide) (fun h402 => absurd h402 (back_ok hJ hB)) (fun h402 => ?_)
      refine V_aload_n hC kL_holds_405 rfl ?_
      refine V_cV_fI hC (cl_room hWr hR hI) mkX5_room lmL_55 kL_holds_406 (Nat.le_of_ble_eq_true rfl) rfl rfl rfl (Nat.le_of_ble_eq_true rfl) ⟨(Nat.le_of_ble_eq_true rfl), (Nat.le_of_ble_eq_true rfl)⟩ ⟨rfl, rfl⟩ ⟨(by show _ ≤ 200; omega), (by show _ ≤ 1200; omega)⟩ ?_
      refine V_iload_n hC kL_holds_409 rfl ?_
      refine V_iadd hC kL_holds_410 ?_
      refine V_iload hC kL_holds_411 rfl ?_
      refine V_icmp_ne hC 420 kL_holds_413 (by decide) (fun h413 => absurd h413 (not_not_intro (by rw [← SA_all hI _ (Nat.le_refl _)]; exact room_sum g _))) (fun h413 => ?_)
      refine V_iconst hC (1) kL_holds_416 (by decide) ?_
      refine V_goto hC 421 kL_holds_417 (by decide) ?_
      refine V_iretzX hC rfl kL_holds_421 ⟨(by show _ ≤ 200; omega), (by show _ ≤ 1200; omega)⟩ (Or.inr rfl) ?_
      exact ⟨rfl, rfl⟩
    · refine V_iload hC kL_holds_251 rfl ?_
      refine V_iload_n hC kL_holds_253 rfl ?_
      refine V_icmp_ge hC 345 kL_holds_254 (by decide) (fun h254 => absurd h254 (cnt_lt hI.hc4.1 hk)) (fun h254 => ?_)
      refine V_iconst hC (0) kL_holds_257 (by decide) ?_
      refine V_istore hC [some _, some _, some _, some _, some _, some _, some _, some _, some _, some _, some _, some _, none] kL_holds_258 rfl (Nat.le_of_ble_eq_true rfl) ?_
      refine V_iconst hC (0) kL_holds_260 (by decide) ?_
      refine V_istore hC [some _, some _, some _, some _, some _, some _, some _, some _, some _, some _, some _, some _, some _] kL_holds_261 rfl (Nat.le_of_ble_eq_true rfl) ?_
      refine V_loopC (tn (g 5)) (fun j => 82 + 12 * k + j) (fun j => 6 * (82 + 12 * k + j)) (fun j => [some (vR (some (5, 0, x))), some (vI (g 4)), some (vI (g 5)), some (vI (F_thatN g 0 (tn (g 5)))), some (vI (F_thatN g 1 (tn (g 5)))), some (vI (SB g 7 (tn (g 5)))), some (vI (SB g 8 (tn (g 5)))), some (vI (SC g k)), some (vI (SA g (tn (g 5)) k)), some (vI (SLt g k)), some (vI (nI k)), some (vI (F_servesN g (nI k) j)), some (vI (nI j))]) rfl ⟨(by omega), (by omega)⟩ ?_ (fun j hj ihj => ?_)
      · refine V_iload hC kL_holds_263 rfl ?_
        refine V_iload_n hC kL_holds_265 rfl ?_
        refine V_icmp_ge hC 293 kL_holds_266 (by decide) (fun h266 => ?_) (fun h266 => absurd h266 (not_not_intro (cnt_le hI.hc5.1)))
        refine V_iload hC kL_holds_293 rfl ?_
        refine V_iload hC kL_holds_295 rfl ?_
        refine V_iadd hC kL_holds_297 ?_
        refine V_istore hC [some _, some _, some _, some _, some _, some _, some _, some _, some _, some _, some _, some _, some _] kL_holds_298 rfl (Nat.le_of_ble_eq_true rfl) ?_
        refine V_iload hC kL_holds_300 rfl ?_
        refine V_aload_n hC kL_holds_302 rfl ?_
        refine V_iload hC kL_holds_303 rfl ?_
        refine V_iconst hC (4) kL_holds_305 (by decide) ?_
        refine V_cVf hC hX.1 (cf_lightOf hWr hl0 (nI k) (4) hR hI) (fun _ _ h => h.1) (Kl_0 hI hk (j := 4) (by decide)) mkX5_lightOf lxL_18 kL_holds_306 (Nat.le_of_ble_eq_true rfl) rfl rfl rfl (Nat.le_of_ble_eq_true rfl) ⟨(Nat.le_of_ble_eq_true rfl), (Nat.le_of_ble_eq_true rfl)⟩ ⟨rfl, rfl⟩ ⟨(by show _ ≤ 200; omega), (by show _ ≤ 1200; omega)⟩ ?_
        refine V_iadd hC kL_holds_309 ?_
        refine V_istore hC [some _, some _, some _, some _, some _, some _, some _, some _, some _, some _, some _, some _, some _] kL_holds_310 rfl (Nat.le_of_ble_eq_true rfl) ?_
        refine V_iload hC kL_holds_312 rfl ?_
        refine V_aload_n hC kL_holds_314 rfl ?_
        refine V_iload hC kL_holds_315 rfl ?_
        refine V_bipush hC (8) kL_holds_317 (by decide) ?_
        refine V_cVf hC hX.1 (cf_lightOf hWr hl0 (nI k) (8) hR hI) (fun _ _ h => h.1) (Kl_0 hI hk (j := 8) (by decide)) mkX5_lightOf lxL_18 kL_holds_319 (Nat.le_of_ble_eq_true rfl) rfl rfl rfl (Nat.le_of_ble_eq_true rfl) ⟨(Nat.le_of_ble_eq_true rfl), (Nat.le_of_ble_eq_true rfl)⟩ ⟨rfl, rfl⟩ ⟨(by show _ ≤ 200; omega), (by show _ ≤ 1200; omega)⟩ ?_
        refine V_iadd hC kL_holds_322 ?_
        refine V_istore hC [some _, some _, some _, some _, some _, some _, some _, some _, some _, some _, some _, some _, some _] kL_holds_323 rfl (Nat.le_of_ble_eq_true rfl) ?_
        refine V_iload hC kL_holds_325 rfl ?_
        refine V_aload_n hC kL_holds_327 rfl ?_
        refine V_iload hC kL_holds_328 rfl ?_
        refine V_iconst hC (4) kL_holds_330 (by decide) ?_
        refine V_cVf hC hX.1 (cf_lightOf hWr hl0 (nI k) (4) hR hI) (fun _ _ h => h.1) (Kl_0 hI hk (j := 4) (by decide)) mkX5_lightOf lxL_18 kL_holds_331 (Nat.le_of_ble_eq_true rfl) rfl rfl rfl (Nat.le_of_ble_eq_true rfl) ⟨(Nat.le_of_ble_eq_true rfl), (Nat.le_of_ble_eq_true rfl)⟩ ⟨rfl, rfl⟩ ⟨(by show _ ≤ 200; omega), (by show _ ≤ 1200; omega)⟩ ?_
        refine V_icmp_le hC 339 kL_holds_334 (by decide) (fun h334 => ?_) (fun h334 => absurd h334 (not_not_intro (cap_ok hI hk)))
        refine V_iinc hC (_ + 1) [some _, some _, some _, some _, some _, some _, some _, some _, some _, some _, some _, some _, some _] kL_holds_339 rfl rfl rfl (Nat.le_of_ble_eq_true rfl) ?_
        refine V_goto hC 251 kL_holds_342 (by decide) ?_
        refine V_drop 11 [_, _, _, _, _, _, _, _, _, _, _, none, _] rfl ?_
        refine V_drop 12 [_, _, _, _, _, _, _, _, _, _, _, _, none] rfl ?_
        refine V_wd ⟨by omega, by omega⟩ (V_eq ?_ rfl ihk)
        rw [scS, stS (by omega), nI_succ' k]
        rfl
      · refine V_iload hC kL_holds_263 rfl ?_
        refine V_iload_n hC kL_holds_265 rfl ?_
        refine V_icmp_ge hC 293 kL_holds_266 (by decide) (fun h266 => absurd h266 (cnt_lt hI.hc5.1 hj)) (fun h266 => ?_)
        refine V_iload hC kL_holds_269 rfl ?_
        refine V_aload_n hC kL_holds_271 rfl ?_
        refine V_iload hC kL_holds_272 rfl ?_
        refine V_bipush hC (7) kL_holds_274 (by decide) ?_
        refine V_cVf hC hX.1 (cf_lightOf hWr hl0 (nI k) (7) hR hI) (fun _ _ h => h.1) (Kl_0 hI hk (j := 7) (by decide)) mkX5_lightOf lxL_18 kL_holds_276 (Nat.le_of_ble_eq_true rfl) rfl rfl rfl (Nat.le_of_ble_eq_true rfl) ⟨(Nat.le_of_ble_eq_true rfl), (Nat.le_of_ble_eq_true rfl)⟩ ⟨rfl, rfl⟩ ⟨(by show _ ≤ 200; omega), (by show _ ≤ 1200; omega)⟩ ?_
        refine V_iload hC kL_holds_279 rfl ?_
        refine V_ishr hC kL_holds_281 ?_
        refine V_iconst hC (1) kL_holds_282 (by decide) ?_
        refine V_iand hC kL_holds_283 ?_
        refine V_iadd hC kL_holds_284 ?_
        refine V_istore hC [some _, some _, some _, some _, some _, some _, some _, some _, some _, some _, some _, some _, some _] kL_holds_285 rfl (Nat.le_of_ble_eq_true rfl) ?_
        refine V_iinc hC (_ + 1) [some _, some _, some _, some _, some _, some _, some _, some _, some _, some _, some _, some _, some _] kL_holds_287 rfl rfl rfl (Nat.le_of_ble_eq_true rfl) ?_
        refine V_goto hC 263 kL_holds_290 (by decide) ?_
        refine V_wd ⟨by omega, by omega⟩ (V_eq ?_ rfl ihj)
        rw [svS hI hj, nI_succ' j]
  · have hb := HB.of hJ hB hi
    refine V_iload hC kL_holds_26 rfl ?_
    refine V_iload_n hC kL_holds_28 rfl ?_
    refine V_icmp_ge hC 239 kL_holds_29 (by decide) (fun h29 => absurd h29 (cnt_lt hI.hc5.1 hi)) (fun h29 => ?_)
    refine V_aload_n hC kL_holds_32 rfl ?_
    refine V_iload hC kL_holds_33 rfl ?_
    refine V_iconst hC (2) kL_holds_35 (by decide) ?_
    refine V_cVf hC hX.1 (cf_boatOf hWr hl0 (nI i) (2) hR hI) (fun _ _ h => h.1) (Kb_0 hI hi (j := 2) (by decide)) mkX5_boatOf lxL_22 kL_holds_36 (Nat.le_of_ble_eq_true rfl) rfl rfl rfl (Nat.le_of_ble_eq_true rfl) ⟨(Nat.le_of_ble_eq_true rfl), (Nat.le_of_ble_eq_true rfl)⟩ ⟨rfl, rfl⟩ ⟨(by show _ ≤ 200; omega), (by show _ ≤ 1200; omega)⟩ ?_
    refine V_istore hC [some _, some _, some _, some _, some _, some _, some _, some _, some _, none, none, none, none] kL_holds_39 rfl (Nat.le_of_ble_eq_true rfl) ?_
    refine V_aload_n hC kL_holds_41 rfl ?_
    refine V_iload hC kL_holds_42 rfl ?_
    refine V_iconst hC (4) kL_holds_44 (by decide) ?_
    refine V_cVf hC hX.1 (cf_boatOf hWr hl0 (nI i) (4) hR hI) (fun _ _ h => h.1) (Kb_0 hI hi (j := 4) (by decide)) mkX5_boatOf lxL_22 kL_holds_45 (Nat.le_of_ble_eq_true rfl) rfl rfl rfl (Nat.le_of_ble_eq_true rfl) ⟨(Nat.le_of_ble_eq_true rfl), (Nat.le_of_ble_eq_true rfl)⟩ ⟨rfl, rfl⟩ ⟨(by show _ ≤ 200; omega), (by show _ ≤ 1200; omega)⟩ ?_
    refine V_istore hC [some _, some _, some _, some _, some _, some _, some _, some _, some _, some _, none, none, none] kL_holds_48 rfl (Nat.le_of_ble_eq_true rfl) ?_
    refine V_iload_n hC kL_holds_50 rfl ?_
    refine V_join 61 (b01 (¬ (R_boatOf g (nI i) 2) < 0)) ?_ (fun j61 => ?_)
    · refine V_iadd hC kL_holds_61 ?_
      refine V_istore_n hC [some _, some _, some _, some _, some _, some _, some _, some _, some _, some _, none, none, none] kL_holds_62 rfl (Nat.le_of_ble_eq_true rfl) ?_
      refine V_iload hC kL_holds_63 rfl ?_
      refine V_aload_n hC kL_holds_65 rfl ?_
      refine V_iload hC kL_holds_66 rfl ?_
      refine V_iconst hC (3) kL_holds_68 (by decide) ?_
      refine V_cVf hC hX.1 (cf_boatOf hWr hl0 (nI i) (3) hR hI) (fun _ _ h => h.1) (Kb_0 hI hi (j := 3) (by decide)) mkX5_boatOf lxL_22 kL_holds_69 (Nat.le_of_ble_eq_true rfl) rfl rfl rfl (Nat.le_of_ble_eq_true rfl) ⟨(Nat.le_of_ble_eq_true rfl), (Nat.le_of_ble_eq_true rfl)⟩ ⟨rfl, rfl⟩ ⟨(by show _ ≤ 200; omega), (by show _ ≤ 1200; omega)⟩ ?_
      refine V_joinG 80 [vI (b01 (¬ (R_boatOf g (nI i) 3) ≤ 0)), vI (F_thatN g 1 i)] ?_ (fun j80 => ?_)
      · refine V_iadd hC kL_holds_80 ?_
        refine V_istore hC [some _, some _, some _, some _, some _, some _, some _, some _, some _, some _, none, none, none] kL_holds_81 rfl (Nat.le_of_ble_eq_true rfl) ?_
        refine V_iload hC kL_holds_83 rfl ?_
        refine V_aload_n hC kL_holds_85 rfl ?_
        refine V_iload hC kL_holds_86 rfl ?_
        refine V_bipush hC (7) kL_holds_88 (by decide) ?_
        refine V_cVf hC hX.1 (cf_boatOf hWr hl0 (nI i) (7) hR hI) (fun _ _ h => h.1) (Kb_0 hI hi (j := 7) (by decide)) mkX5_boatOf lxL_22 kL_holds_90 (Nat.le_of_ble_eq_true rfl) rfl rfl rfl (Nat.le_of_ble_eq_true rfl) ⟨(Nat.le_of_ble_eq_true rfl), (Nat.le_of_ble_eq_true rfl)⟩ ⟨rfl, rfl⟩ ⟨(by show _ ≤ 200; omega), (by show _ ≤ 1200; omega)⟩ ?_
        refine V_iadd hC kL_holds_93 ?_
        refine V_istore hC [some _, some _, some _, some _, some _, some _, some _, some _, some _, some _, none, none, none] kL_holds_94 rfl (Nat.le_of_ble_eq_true rfl) ?_
        refine V_iload hC kL_holds_96 rfl ?_
        refine V_aload_n hC kL_holds_98 rfl ?_
        refine V_iload hC kL_holds_99 rfl ?_
        refine V_bipush hC (8) kL_holds_101 (by decide) ?_
        refine V_cVf hC hX.1 (cf_boatOf hWr hl0 (nI i) (8) hR hI) (fun _ _ h => h.1) (Kb_0 hI hi (j := 8) (by decide)) mkX5_boatOf lxL_22 kL_holds_103 (Nat.le_of_ble_eq_true rfl) rfl rfl rfl (Nat.le_of_ble_eq_true rfl) ⟨(Nat.le_of_ble_eq_true rfl), (Nat.le_of_ble_eq_true rfl)⟩ ⟨rfl, rfl⟩ ⟨(by show _ ≤ 200; omega), (by show _ ≤ 1200; omega)⟩ ?_
        refine V_iadd hC kL_holds_106 ?_
        refine V_istore hC [some _, some _, some _, some _, some _, some _, some _, some _, some _, some _, none, none, none] kL_holds_107 rfl (Nat.le_of_ble_eq_true rfl) ?_
        refine V_aload_n hC kL_holds_109 rfl ?_
        refine V_iload hC kL_holds_110 rfl ?_
        refine V_iconst hC (0) kL_holds_112 (by decide) ?_
        refine V_cVf hC hX.1 (cf_boatOf hWr hl0 (nI i) (0) hR hI) (fun _ _ h => h.1) (Kb_0 hI hi (j := 0) (by decide)) mkX5_boatOf lxL_22 kL_holds_113 (Nat.le_of_ble_eq_true rfl) rfl rfl rfl (Nat.le_of_ble_eq_true rfl) ⟨(Nat.le_of_ble_eq_true rfl), (Nat.le_of_ble_eq_true rfl)⟩ ⟨rfl, rfl⟩ ⟨(by show _ ≤ 200; omega), (by show _ ≤ 1200; omega)⟩ ?_
        refine V_if_lt hC 142 kL_holds_116 (by decide) (fun h116 => absurd h116 hb.1) (fun h116 => ?_)
        refine V_aload_n hC kL_holds_119 rfl ?_
        refine V_iload hC kL_holds_120 rfl ?_
        refine V_iconst hC (0) kL_holds_122 (by decide) ?_
        refine V_cVf hC hX.1 (cf_boatOf hWr hl0 (nI i) (0) hR hI) (fun _ _ h => h.1) (Kb_0 hI hi (j := 0) (by decide)) mkX5_boatOf lxL_22 kL_holds_123 (Nat.le_of_ble_eq_true rfl) rfl rfl rfl (Nat.le_of_ble_eq_true rfl) ⟨(Nat.le_of_ble_eq_true rfl), (Nat.le_of_ble_eq_true rfl)⟩ ⟨rfl, rfl⟩ ⟨(by show _ ≤ 200; omega), (by show _ ≤ 1200; omega)⟩ ?_
        refine V_sipush hC (200) kL_holds_126 (by decide) ?_
        refine V_icmp_ge hC 142 kL_holds_129 (by decide) (fun h129 => absurd h129 hb.2.1) (fun h129 => ?_)
        refine V_iload hC kL_holds_132 rfl ?_
        refine V_iload_n hC kL_holds_134 rfl ?_
        refine V_icmp_ge hC 142 kL_holds_135 (by decide) (fun h135 => absurd h135 hb.2.2.1) (fun h135 => ?_)
        refine V_iconst hC (1) kL_holds_138 (by decide) ?_
        refine V_goto hC 143 kL_holds_139 (by decide) ?_
        refine V_istore hC [some _, some _, some _, some _, some _, some _, some _, some _, some _, some _, some _, none, none] kL_holds_143 rfl (Nat.le_of_ble_eq_true rfl) ?_
        refine V_iload hC kL_holds_145 rfl ?_
        refine V_if_eq hC 231 kL_holds_147 (by decide) (fun h147 => absurd h147 (by decide)) (fun h147 => ?_)
        refine V_aload_n hC kL_holds_150 rfl ?_
        refine V_iload hC kL_holds_151 rfl ?_
        refine V_iconst hC (3) kL_holds_153 (by decide) ?_
        refine V_cVf hC hX.1 (cf_boatOf hWr hl0 (nI i) (3) hR hI) (fun _ _ h => h.1) (Kb_0 hI hi (j := 3) (by decide)) mkX5_boatOf lxL_22 kL_holds_154 (Nat.le_of_ble_eq_true rfl) rfl rfl rfl (Nat.le_of_ble_eq_true rfl) ⟨(Nat.le_of_ble_eq_true rfl), (Nat.le_of_ble_eq_true rfl)⟩ ⟨rfl, rfl⟩ ⟨(by show _ ≤ 200; omega), (by show _ ≤ 1200; omega)⟩ ?_
        refine V_joinG 165 [] ?_ (fun j165 => ?_)
        · refine V_joinS 182 (sg) ?_ (fun j182 => ?_)
          · refine V_join 192 (b01 (¬ (R_boatOf g (nI i) 4) < 0)) ?_ (fun j192 => ?_)
            · refine V_aload_n hC kL_holds_192 rfl ?_
              refine V_iload hC kL_holds_193 rfl ?_
              refine V_iconst hC (5) kL_holds_195 (by decide) ?_
              refine V_cVf hC hX.1 (cf_boatOf hWr hl0 (nI i) (5) hR hI) (fun _ _ h => h.1) (Kb_0 hI hi (j := 5) (by decide)) mkX5_boatOf lxL_22 kL_holds_196 (Nat.le_of_ble_eq_true rfl) rfl rfl rfl (Nat.le_of_ble_eq_true rfl) ⟨(Nat.le_of_ble_eq_true rfl), (Nat.le_of_ble_eq_true rfl)⟩ ⟨rfl, rfl⟩ ⟨(by show _ ≤ 200; omega), (by show _ ≤ 1200; omega)⟩ ?_
              refine V_joinG 207 [vI (b01 (¬ (R_boatOf g (nI i) 5) ≤ 0)), vI (b01 (¬ (R_boatOf g (nI i) 4) < 0))] ?_ (fun j207 => ?_)
              · refine V_icmp_ne hC 231 kL_holds_207 (by decide) (fun h207 => absurd h207 (not_not_intro hb.2.2.2.2.2.1)) (fun h207 => ?_)
                refine V_iload hC kL_holds_210 rfl ?_
                refine V_if_lt hC 233 kL_holds_212 (by decide) (fun h212 => ?_) (fun h212 => ?_)
                · refine V_iinc hC (_ + 1) [some _, some _, some _, some _, some _, some _, some _, some _, some _, some _, some _, none, none] kL_holds_233 rfl rfl rfl (Nat.le_of_ble_eq_true rfl) ?_
                  refine V_goto hC 26 kL_holds_236 (by decide) ?_
                  refine V_drop 8 [_, _, _, _, _, _, _, _, none, _, _, _, _] rfl ?_
                  refine V_drop 9 [_, _, _, _, _, _, _, _, _, none, _, _, _] rfl ?_
                  refine V_drop 10 [_, _, _, _, _, _, _, _, _, _, none, _, _] rfl ?_
                  refine V_wd ⟨by omega, by omega⟩ (V_eq ?_ rfl ihi)
                  rw [thS0 hb, thS1, sbS7 (by omega), sbS8 (by omega), nI_succ' i]
                · refine V_aload_n hC kL_holds_215 rfl ?_
                  refine V_iload hC kL_holds_216 rfl ?_
                  refine V_bipush hC (7) kL_holds_218 (by decide) ?_
                  refine V_cVf hC hX.1 (cf_lightOf hWr hl0 ((R_boatOf g (nI i) 2)) 7 hR hI) (fun _ _ h => h.1) ((hb.2.2.2.2.2.2.1 h212).1) mkX5_lightOf lxL_18 kL_holds_220 (Nat.le_of_ble_eq_true rfl) rfl rfl rfl (Nat.le_of_ble_eq_true rfl) ⟨(Nat.le_of_ble_eq_true rfl), (Nat.le_of_ble_eq_true rfl)⟩ ⟨rfl, rfl⟩ ⟨(by show _ ≤ 200; omega), (by show _ ≤ 1200; omega)⟩ ?_
                  refine V_iload hC kL_holds_223 rfl ?_
                  refine V_ishr hC kL_holds_225 ?_
                  refine V_iconst hC (1) kL_holds_226 (by decide) ?_
                  refine V_iand hC kL_holds_227 ?_
                  refine V_if_ne hC 233 kL_holds_228 (by decide) (fun h228 => ?_) (fun h228 => absurd h228 (hb.2.2.2.2.2.2.1 h212).2)
                  refine V_iinc hC (_ + 1) [some _, some _, some _, some _, some _, some _, some _, some _, some _, some _, some _, none, none] kL_holds_233 rfl rfl rfl (Nat.le_of_ble_eq_true rfl) ?_
                  refine V_goto hC 26 kL_holds_236 (by decide) ?_
                  refine V_drop 8 [_, _, _, _, _, _, _, _, none, _, _, _, _] rfl ?_
                  refine V_drop 9 [_, _, _, _, _, _, _, _, _, none, _, _, _] rfl ?_
                  refine V_drop 10 [_, _, _, _, _, _, _, _, _, _, none, _, _] rfl ?_
                  refine V_wd ⟨by omega, by omega⟩ (V_eq ?_ rfl ihi)
                  rw [thS0 hb, thS1, sbS7 (by omega), sbS8 (by omega), nI_succ' i]
              · refine V_if_le hC 206 kL_holds_199 (by decide) (fun h199 => ?_) (fun h199 => ?_)
                · refine V_iconst hC (0) kL_holds_206 (by decide) ?_
                  rw [b01_f (not_not_intro h199)] at j207
                  exact j207
                · refine V_iconst hC (1) kL_holds_202 (by decide) ?_
                  refine V_goto hC 207 kL_holds_203 (by decide) ?_
                  rw [b01_t h199] at j207
                  exact j207
            · refine V_iload hC kL_holds_182 rfl ?_
              refine V_if_lt hC 191 kL_holds_184 (by decide) (fun h184 => ?_) (fun h184 => ?_)
              · refine V_iconst hC (0) kL_holds_191 (by decide) ?_
                exact j192 _ ((b01_f (not_not_intro h184)).symm)
              · refine V_iconst hC (1) kL_holds_187 (by decide) ?_
                refine V_goto hC 192 kL_holds_188 (by decide) ?_
                exact j192 _ ((b01_t h184).symm)
          · refine V_iload hC kL_holds_165 rfl ?_
            refine V_if_lt hC 182 kL_holds_167 (by decide) (fun h167 => ?_) (fun h167 => ?_)
            · exact j182 _ rfl
            · refine V_iload hC kL_holds_170 rfl ?_
              refine V_if_lt hC 231 kL_holds_172 (by decide) (fun h172 => absurd h172 (hb.2.2.2.2.1 h167).1) (fun h172 => ?_)
              refine V_iload hC kL_holds_175 rfl ?_
              refine V_iload hC kL_holds_177 rfl ?_
              refine V_icmp_eq hC 231 kL_holds_179 (by decide) (fun h179 => absurd h179 (hb.2.2.2.2.1 h167).2) (fun h179 => ?_)
              exact j182 _ rfl
        · refine V_if_le hC 165 kL_holds_157 (by decide) (fun h157 => ?_) (fun h157 => ?_)
          · exact j165
          · refine V_iload hC kL_holds_160 rfl ?_
            refine V_if_lt hC 231 kL_holds_162 (by decide) (fun h162 => absurd h162 (hb.2.2.2.1 h157)) (fun h162 => ?_)
            exact j165
      · refine V_if_le hC 79 kL_holds_72 (by decide) (fun h72 => ?_) (fun h72 => ?_)
        · refine V_iconst hC (0) kL_holds_79 (by decide) ?_
          rw [b01_f (not_not_intro h72)] at j80
          exact j80
        · refine V_iconst hC (1) kL_holds_75 (by decide) ?_
          refine V_goto hC 80 kL_holds_76 (by decide) ?_
          rw [b01_t h72] at j80
          exact j80
    · refine V_iload hC kL_holds_51 rfl ?_
      refine V_if_lt hC 60 kL_holds_53 (by decide) (fun h53 => ?_) (fun h53 => ?_)
      · refine V_iconst hC (0) kL_holds_60 (by decide) ?_
        exact j61 _ ((b01_f (not_not_intro h53)).symm)
      · refine V_iconst hC (1) kL_holds_56 (by decide) ?_
        refine V_goto hC 61 kL_holds_57 (by decide) ?_
        exact j61 _ ((b01_t h53).symm)
