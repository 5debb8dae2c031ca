-- HOW cl_isPlace fI
-- HOW cl_isSpeed fI
-- HOW cl_isStrength fI
-- HOW cl_isTickCount fI
-- HOW cl_isSetting fI
-- HOW cl_isSlot fI
-- HOW cl_isSettingValue fI
-- HOW cl_shown fI
-- HOW cl_lbegin fV
-- HOW cl_lcopy fV
-- HOW cl_bcopy fV
-- HOW cl_lnum fI
-- HOW cl_bnum fI
-- HOW cl_bright fI
-- HOW cl_worth fI
-- HOW cl_bitCount fI
-- HOW cl_servedCount fI
-- HOW cl_takesHandedOn fI
-- HOW cl_takesOthers fI
-- HOW cl_bbegin fV
-- HOW cl_move fV
-- HOW cl_wishFor fV
-- HOW cl_lightR fR
-- HOW cl_lightN fR
-- HOW cl_boatR fR
-- HOW cl_boatN fR
-- HOW cl_setR fI
-- HOW cl_lightAt fR
-- HOW cl_lightAtNo fR
-- HOW cl_boatAt fR
-- HOW cl_boatAtNo fR
-- HOW cl_settingOf fI
-- HOW cl_servedBoats fI
-- HOW cl_talkingBoats fI
-- HOW cl_numberOf fI
-- HOW cl_brightest fI
-- HOW cl_isDark fI
-- HOW cl_freePlaces fI
-- HOW cl_lightFault fI
-- HOW cl_boatFault fI
-- HOW cl_steerFault fI
-- HOW cl_dimFault fI
-- HOW cl_leanFault fI
-- HOW cl_talkFault fI
-- HOW cl_putSpeed rI
-- HOW cl_putTalk rI
-- HOW cl_putLeaning rI
-- HOW cl_putStrength rI
-- HOW cl_putSetting rI
-- HOW cl_addLight rI
-- HOW cl_addBoat rI
-- HOW cl_tryLight rI
-- HOW cl_tryBoat rI
-- HOW cl_trySteer rI
-- HOW cl_tryTalk rI
-- HOW cl_tryLean rI
-- HOW cl_tryDim rI
-- HOW cl_serve rV
-- HOW cl_lose rV
-- HOW cl_bestWish fI
-- HOW cl_seekKeeper rV
-- HOW cl_ask rV
-- HOW cl_sail rV
-- HOW cl_pass rV
-- HOW cl_reset rV
-- HOW cl_copyFrom rV
-- HOW cl_stateAt fR
-- HOW cl_slotAt fR
-- HOW cl_hasStates fI
-- HOW cl_remember rV
-- HOW cl_takeBack rI
-- HOW cl_isKept fI
-- HOW cl_keep rV
-- HOW cl_bring rV
-- HOW cl_gained fI
-- HOW cl_dark fI
-- HOW cl_room fI
-- HOW cl_takeTurn rV
-- HOW cl_throwFault xV
-- HOW cf_about xI
-- HOW cf_lightOf xI
-- HOW cf_boatOf xI
-- HOW cf_bestAt xI
-- HOW cf_setting xI
-- HOW cf_light xI
-- HOW cf_boat xI
-- HOW cf_steer xI
-- HOW cf_talk xI
-- HOW cf_dim xI
-- HOW cf_set xI
-- HOW cf_ticks xI
-- HOW cf_undo xI
-- HOW cf_save xI
-- HOW cf_restore xI
-- HOW cf_simulate xI
-- HOW cf_border xI
-- HOW cp_low fI
/-! the law's own method act -/
def PA (x N : Nat) (G : Nat → Gs) (K : Nat → Bool) (S : Nat → Gs) (g0 : Gs) (sg : Sg) (o : Option (Int32 × Gs)) (r : Option VV) (g2 : Sg) : Prop := match o with
  | none => r = some (vI (-9)) ∧ g2 = sg
  | some q => r = some (vI q.1) ∧ PM x (nPush N) (gPush G N g0) K S q.2 sg g2
def mtL_act : Mt := (yL_act, cL_act, 7, (some .int), 9, 267, 5, 30)
theorem kL_act_0 : Dk mtL_act 0 (.aload_n 0) 1 1 := ⟨by decide +kernel, rfl⟩
theorem kL_act_1 : Dk mtL_act 1 (.iconst 0) 1 2 := ⟨by decide +kernel, rfl⟩
theorem kL_act_2 : Dk mtL_act 2 (.invokevirtual 12) 3 5 := ⟨by decide +kernel, rfl⟩
theorem kL_act_5 : Dk mtL_act 5 (.istore_n 3) 1 6 := ⟨by decide +kernel, rfl⟩
theorem kL_act_6 : Dk mtL_act 6 (.aload_n 0) 1 7 := ⟨by decide +kernel, rfl⟩
theorem kL_act_7 : Dk mtL_act 7 (.iconst 1) 1 8 := ⟨by decide +kernel, rfl⟩
theorem kL_act_8 : Dk mtL_act 8 (.invokevirtual 12) 3 11 := ⟨by decide +kernel, rfl⟩
theorem kL_act_11 : Dk mtL_act 11 (.istore 4) 2 13 := ⟨by decide +kernel, rfl⟩
theorem kL_act_13 : Dk mtL_act 13 (.iload_n 3) 1 14 := ⟨by decide +kernel, rfl⟩
theorem kL_act_14 : Dk mtL_act 14 (.ifCond .ne 7) 3 17 := ⟨by decide +kernel, rfl⟩
theorem kL_act_17 : Dk mtL_act 17 (.iconst 0) 1 18 := ⟨by decide +kernel, rfl⟩
theorem kL_act_18 : Dk mtL_act 18 (.goto 10) 3 21 := ⟨by decide +kernel, rfl⟩
theorem kL_act_21 : Dk mtL_act 21 (.iload_n 1) 1 22 := ⟨by decide +kernel, rfl⟩
theorem kL_act_22 : Dk mtL_act 22 (.iconst 4) 1 23 := ⟨by decide +kernel, rfl⟩
theorem kL_act_23 : Dk mtL_act 23 (.ishr) 1 24 := ⟨by decide +kernel, rfl⟩
theorem kL_act_24 : Dk mtL_act 24 (.iload_n 3) 1 25 := ⟨by decide +kernel, rfl⟩
theorem kL_act_25 : Dk mtL_act 25 (.invokestatic 28) 3 28 := ⟨by decide +kernel, rfl⟩
theorem kL_act_28 : Dk mtL_act 28 (.istore 5) 2 30 := ⟨by decide +kernel, rfl⟩
theorem kL_act_30 : Dk mtL_act 30 (.iload 4) 2 32 := ⟨by decide +kernel, rfl⟩
theorem kL_act_32 : Dk mtL_act 32 (.ifCond .ne 7) 3 35 := ⟨by decide +kernel, rfl⟩
theorem kL_act_35 : Dk mtL_act 35 (.iconst 0) 1 36 := ⟨by decide +kernel, rfl⟩
theorem kL_act_36 : Dk mtL_act 36 (.goto 11) 3 39 := ⟨by decide +kernel, rfl⟩
theorem kL_act_39 : Dk mtL_act 39 (.iload_n 1) 1 40 := ⟨by decide +kernel, rfl⟩
theorem kL_act_40 : Dk mtL_act 40 (.iconst 4) 1 41 := ⟨by decide +kernel, rfl⟩
theorem kL_act_41 : Dk mtL_act 41 (.ishr) 1 42 := ⟨by decide +kernel, rfl⟩
theorem kL_act_42 : Dk mtL_act 42 (.iload 4) 2 44 := ⟨by decide +kernel, rfl⟩
theorem kL_act_44 : Dk mtL_act 44 (.invokestatic 28) 3 47 := ⟨by decide +kernel, rfl⟩
theorem kL_act_47 : Dk mtL_act 47 (.istore 6) 2 49 := ⟨by decide +kernel, rfl⟩
theorem kL_act_49 : Dk mtL_act 49 (.iload_n 1) 1 50 := ⟨by decide +kernel, rfl⟩
theorem kL_act_50 : Dk mtL_act 50 (.bipush 15) 2 52 := ⟨by decide +kernel, rfl⟩
theorem kL_act_52 : Dk mtL_act 52 (.iand) 1 53 := ⟨by decide +kernel, rfl⟩
theorem kL_act_53 : Dk mtL_act 53 (.tableswitch 282 0 9 #[55, 55, 126, 126, 161, 187, 187, 222, 247, 267]) 55 108 := ⟨by decide +kernel, rfl⟩
theorem kL_act_108 : Dk mtL_act 108 (.iload_n 3) 1 109 := ⟨by decide +kernel, rfl⟩
theorem kL_act_109 : Dk mtL_act 109 (.bipush 6) 2 111 := ⟨by decide +kernel, rfl⟩
theorem kL_act_111 : Dk mtL_act 111 (.if_icmp .ne 8) 3 114 := ⟨by decide +kernel, rfl⟩
theorem kL_act_114 : Dk mtL_act 114 (.bipush (-9)) 2 116 := ⟨by decide +kernel, rfl⟩
theorem kL_act_116 : Dk mtL_act 116 (.goto 62) 3 119 := ⟨by decide +kernel, rfl⟩
theorem kL_act_119 : Dk mtL_act 119 (.aload_n 0) 1 120 := ⟨by decide +kernel, rfl⟩
theorem kL_act_120 : Dk mtL_act 120 (.iload_n 2) 1 121 := ⟨by decide +kernel, rfl⟩
theorem kL_act_121 : Dk mtL_act 121 (.sipush 200) 3 124 := ⟨by decide +kernel, rfl⟩
theorem kL_act_124 : Dk mtL_act 124 (.invokestatic 28) 3 127 := ⟨by decide +kernel, rfl⟩
theorem kL_act_127 : Dk mtL_act 127 (.bipush 10) 2 129 := ⟨by decide +kernel, rfl⟩
theorem kL_act_129 : Dk mtL_act 129 (.iload_n 2) 1 130 := ⟨by decide +kernel, rfl⟩
theorem kL_act_130 : Dk mtL_act 130 (.iconst 4) 1 131 := ⟨by decide +kernel, rfl⟩
theorem kL_act_131 : Dk mtL_act 131 (.ishr) 1 132 := ⟨by decide +kernel, rfl⟩
theorem kL_act_132 : Dk mtL_act 132 (.bipush 90) 2 134 := ⟨by decide +kernel, rfl⟩
theorem kL_act_134 : Dk mtL_act 134 (.invokestatic 28) 3 137 := ⟨by decide +kernel, rfl⟩
theorem kL_act_137 : Dk mtL_act 137 (.iadd) 1 138 := ⟨by decide +kernel, rfl⟩
theorem kL_act_138 : Dk mtL_act 138 (.iload_n 2) 1 139 := ⟨by decide +kernel, rfl⟩
theorem kL_act_139 : Dk mtL_act 139 (.bipush 8) 2 141 := ⟨by decide +kernel, rfl⟩
theorem kL_act_141 : Dk mtL_act 141 (.ishr) 1 142 := ⟨by decide +kernel, rfl⟩
theorem kL_act_142 : Dk mtL_act 142 (.iconst 3) 1 143 := ⟨by decide +kernel, rfl⟩
theorem kL_act_143 : Dk mtL_act 143 (.invokestatic 28) 3 146 := ⟨by decide +kernel, rfl⟩
theorem kL_act_146 : Dk mtL_act 146 (.iconst 1) 1 147 := ⟨by decide +kernel, rfl⟩
theorem kL_act_147 : Dk mtL_act 147 (.iload_n 2) 1 148 := ⟨by decide +kernel, rfl⟩
theorem kL_act_148 : Dk mtL_act 148 (.bipush 10) 2 150 := ⟨by decide +kernel, rfl⟩
theorem kL_act_150 : Dk mtL_act 150 (.ishr) 1 151 := ⟨by decide +kernel, rfl⟩
theorem kL_act_151 : Dk mtL_act 151 (.bipush 20) 2 153 := ⟨by decide +kernel, rfl⟩
theorem kL_act_153 : Dk mtL_act 153 (.invokestatic 28) 3 156 := ⟨by decide +kernel, rfl⟩
theorem kL_act_156 : Dk mtL_act 156 (.iadd) 1 157 := ⟨by decide +kernel, rfl⟩
theorem kL_act_157 : Dk mtL_act 157 (.iconst 2) 1 158 := ⟨by decide +kernel, rfl⟩
theorem kL_act_158 : Dk mtL_act 158 (.iload_n 2) 1 159 := ⟨by decide +kernel, rfl⟩
theorem kL_act_159 : Dk mtL_act 159 (.bipush 13) 2 161 := ⟨by decide +kernel, rfl⟩
theorem kL_act_161 : Dk mtL_act 161 (.ishr) 1 162 := ⟨by decide +kernel, rfl⟩
theorem kL_act_162 : Dk mtL_act 162 (.iconst 4) 1 163 := ⟨by decide +kernel, rfl⟩
theorem kL_act_163 : Dk mtL_act 163 (.invokestatic 28) 3 166 := ⟨by decide +kernel, rfl⟩
theorem kL_act_166 : Dk mtL_act 166 (.iadd) 1 167 := ⟨by decide +kernel, rfl⟩
theorem kL_act_167 : Dk mtL_act 167 (.iload_n 2) 1 168 := ⟨by decide +kernel, rfl⟩
theorem kL_act_168 : Dk mtL_act 168 (.bipush 15) 2 170 := ⟨by decide +kernel, rfl⟩
theorem kL_act_170 : Dk mtL_act 170 (.ishr) 1 171 := ⟨by decide +kernel, rfl⟩
theorem kL_act_171 : Dk mtL_act 171 (.iconst 3) 1 172 := ⟨by decide +kernel, rfl⟩
theorem kL_act_172 : Dk mtL_act 172 (.invokestatic 28) 3 175 := ⟨by decide +kernel, rfl⟩
theorem kL_act_175 : Dk mtL_act 175 (.invokevirtual 33) 3 178 := ⟨by decide +kernel, rfl⟩
theorem kL_act_178 : Dk mtL_act 178 (.ireturn) 1 179 := ⟨by decide +kernel, rfl⟩
theorem kL_act_179 : Dk mtL_act 179 (.iload 4) 2 181 := ⟨by decide +kernel, rfl⟩
theorem kL_act_181 : Dk mtL_act 181 (.bipush 8) 2 183 := ⟨by decide +kernel, rfl⟩
theorem kL_act_183 : Dk mtL_act 183 (.if_icmp .ne 8) 3 186 := ⟨by decide +kernel, rfl⟩
theorem kL_act_186 : Dk mtL_act 186 (.bipush (-9)) 2 188 := ⟨by decide +kernel, rfl⟩
theorem kL_act_188 : Dk mtL_act 188 (.goto 25) 3 191 := ⟨by decide +kernel, rfl⟩
theorem kL_act_191 : Dk mtL_act 191 (.aload_n 0) 1 192 := ⟨by decide +kernel, rfl⟩
theorem kL_act_192 : Dk mtL_act 192 (.iload_n 2) 1 193 := ⟨by decide +kernel, rfl⟩
theorem kL_act_193 : Dk mtL_act 193 (.sipush 200) 3 196 := ⟨by decide +kernel, rfl⟩
theorem kL_act_196 : Dk mtL_act 196 (.invokestatic 28) 3 199 := ⟨by decide +kernel, rfl⟩
theorem kL_act_199 : Dk mtL_act 199 (.iload_n 2) 1 200 := ⟨by decide +kernel, rfl⟩
theorem kL_act_200 : Dk mtL_act 200 (.iconst 5) 1 201 := ⟨by decide +kernel, rfl⟩
theorem kL_act_201 : Dk mtL_act 201 (.ishr) 1 202 := ⟨by decide +kernel, rfl⟩
theorem kL_act_202 : Dk mtL_act 202 (.bipush 13) 2 204 := ⟨by decide +kernel, rfl⟩
theorem kL_act_204 : Dk mtL_act 204 (.invokestatic 28) 3 207 := ⟨by decide +kernel, rfl⟩
theorem kL_act_207 : Dk mtL_act 207 (.bipush 6) 2 209 := ⟨by decide +kernel, rfl⟩
theorem kL_act_209 : Dk mtL_act 209 (.isub) 1 210 := ⟨by decide +kernel, rfl⟩
theorem kL_act_210 : Dk mtL_act 210 (.invokevirtual 37) 3 213 := ⟨by decide +kernel, rfl⟩
theorem kL_act_213 : Dk mtL_act 213 (.ireturn) 1 214 := ⟨by decide +kernel, rfl⟩
theorem kL_act_214 : Dk mtL_act 214 (.iload 4) 2 216 := ⟨by decide +kernel, rfl⟩
theorem kL_act_216 : Dk mtL_act 216 (.ifCond .ne 8) 3 219 := ⟨by decide +kernel, rfl⟩
theorem kL_act_219 : Dk mtL_act 219 (.bipush (-9)) 2 221 := ⟨by decide +kernel, rfl⟩
theorem kL_act_221 : Dk mtL_act 221 (.goto 18) 3 224 := ⟨by decide +kernel, rfl⟩
theorem kL_act_224 : Dk mtL_act 224 (.aload_n 0) 1 225 := ⟨by decide +kernel, rfl⟩
theorem kL_act_225 : Dk mtL_act 225 (.iload 6) 2 227 := ⟨by decide +kernel, rfl⟩
theorem kL_act_227 : Dk mtL_act 227 (.iload_n 2) 1 228 := ⟨by decide +kernel, rfl⟩
theorem kL_act_228 : Dk mtL_act 228 (.bipush 13) 2 230 := ⟨by decide +kernel, rfl⟩
theorem kL_act_230 : Dk mtL_act 230 (.invokestatic 28) 3 233 := ⟨by decide +kernel, rfl⟩
theorem kL_act_233 : Dk mtL_act 233 (.bipush 6) 2 235 := ⟨by decide +kernel, rfl⟩
theorem kL_act_235 : Dk mtL_act 235 (.isub) 1 236 := ⟨by decide +kernel, rfl⟩
theorem kL_act_236 : Dk mtL_act 236 (.invokevirtual 40) 3 239 := ⟨by decide +kernel, rfl⟩
theorem kL_act_239 : Dk mtL_act 239 (.ireturn) 1 240 := ⟨by decide +kernel, rfl⟩
theorem kL_act_240 : Dk mtL_act 240 (.iload 4) 2 242 := ⟨by decide +kernel, rfl⟩
theorem kL_act_242 : Dk mtL_act 242 (.ifCond .eq 13) 3 245 := ⟨by decide +kernel, rfl⟩
theorem kL_act_245 : Dk mtL_act 245 (.aload_n 0) 1 246 := ⟨by decide +kernel, rfl⟩
theorem kL_act_246 : Dk mtL_act 246 (.iload 6) 2 248 := ⟨by decide +kernel, rfl⟩
theorem kL_act_248 : Dk mtL_act 248 (.iconst 2) 1 249 := ⟨by decide +kernel, rfl⟩
theorem kL_act_249 : Dk mtL_act 249 (.invokevirtual 22) 3 252 := ⟨by decide +kernel, rfl⟩
theorem kL_act_252 : Dk mtL_act 252 (.ifCond .ge 8) 3 255 := ⟨by decide +kernel, rfl⟩
theorem kL_act_255 : Dk mtL_act 255 (.bipush (-9)) 2 257 := ⟨by decide +kernel, rfl⟩
theorem kL_act_257 : Dk mtL_act 257 (.goto 17) 3 260 := ⟨by decide +kernel, rfl⟩
theorem kL_act_260 : Dk mtL_act 260 (.aload_n 0) 1 261 := ⟨by decide +kernel, rfl⟩
theorem kL_act_261 : Dk mtL_act 261 (.iload 6) 2 263 := ⟨by decide +kernel, rfl⟩
theorem kL_act_263 : Dk mtL_act 263 (.iconst 1) 1 264 := ⟨by decide +kernel, rfl⟩
theorem kL_act_264 : Dk mtL_act 264 (.iload_n 2) 1 265 := ⟨by decide +kernel, rfl⟩
theorem kL_act_265 : Dk mtL_act 265 (.bipush 99) 2 267 := ⟨by decide +kernel, rfl⟩
theorem kL_act_267 : Dk mtL_act 267 (.invokestatic 28) 3 270 := ⟨by decide +kernel, rfl⟩
theorem kL_act_270 : Dk mtL_act 270 (.iadd) 1 271 := ⟨by decide +kernel, rfl⟩
theorem kL_act_271 : Dk mtL_act 271 (.invokevirtual 43) 3 274 := ⟨by decide +kernel, rfl⟩
theorem kL_act_274 : Dk mtL_act 274 (.ireturn) 1 275 := ⟨by decide +kernel, rfl⟩
theorem kL_act_275 : Dk mtL_act 275 (.iload_n 3) 1 276 := ⟨by decide +kernel, rfl⟩
theorem kL_act_276 : Dk mtL_act 276 (.ifCond .ne 8) 3 279 := ⟨by decide +kernel, rfl⟩
theorem kL_act_279 : Dk mtL_act 279 (.bipush (-9)) 2 281 := ⟨by decide +kernel, rfl⟩
theorem kL_act_281 : Dk mtL_act 281 (.goto 18) 3 284 := ⟨by decide +kernel, rfl⟩
theorem kL_act_284 : Dk mtL_act 284 (.aload_n 0) 1 285 := ⟨by decide +kernel, rfl⟩
theorem kL_act_285 : Dk mtL_act 285 (.iload 5) 2 287 := ⟨by decide +kernel, rfl⟩
theorem kL_act_287 : Dk mtL_act 287 (.bipush 10) 2 289 := ⟨by decide +kernel, rfl⟩
theorem kL_act_289 : Dk mtL_act 289 (.iload_n 2) 1 290 := ⟨by decide +kernel, rfl⟩
theorem kL_act_290 : Dk mtL_act 290 (.bipush 90) 2 292 := ⟨by decide +kernel, rfl⟩
theorem kL_act_292 : Dk mtL_act 292 (.invokestatic 28) 3 295 := ⟨by decide +kernel, rfl⟩
theorem kL_act_295 : Dk mtL_act 295 (.iadd) 1 296 := ⟨by decide +kernel, rfl⟩
theorem kL_act_296 : Dk mtL_act 296 (.invokevirtual 46) 3 299 := ⟨by decide +kernel, rfl⟩
theorem kL_act_299 : Dk mtL_act 299 (.ireturn) 1 300 := ⟨by decide +kernel, rfl⟩
theorem kL_act_300 : Dk mtL_act 300 (.aload_n 0) 1 301 := ⟨by decide +kernel, rfl⟩
theorem kL_act_301 : Dk mtL_act 301 (.iload_n 2) 1 302 := ⟨by decide +kernel, rfl⟩
theorem kL_act_302 : Dk mtL_act 302 (.iconst 4) 1 303 := ⟨by decide +kernel, rfl⟩
theorem kL_act_303 : Dk mtL_act 303 (.invokestatic 28) 3 306 := ⟨by decide +kernel, rfl⟩
theorem kL_act_306 : Dk mtL_act 306 (.iconst 1) 1 307 := ⟨by decide +kernel, rfl⟩
theorem kL_act_307 : Dk mtL_act 307 (.iload_n 2) 1 308 := ⟨by decide +kernel, rfl⟩
theorem kL_act_308 : Dk mtL_act 308 (.iconst 2) 1 309 := ⟨by decide +kernel, rfl⟩
theorem kL_act_309 : Dk mtL_act 309 (.ishr) 1 310 := ⟨by decide +kernel, rfl⟩
theorem kL_act_310 : Dk mtL_act 310 (.bipush 10) 2 312 := ⟨by decide +kernel, rfl⟩
theorem kL_act_312 : Dk mtL_act 312 (.invokestatic 28) 3 315 := ⟨by decide +kernel, rfl⟩
theorem kL_act_315 : Dk mtL_act 315 (.iadd) 1 316 := ⟨by decide +kernel, rfl⟩
theorem kL_act_316 : Dk mtL_act 316 (.invokevirtual 49) 3 319 := ⟨by decide +kernel, rfl⟩
theorem kL_act_319 : Dk mtL_act 319 (.ireturn) 1 320 := ⟨by decide +kernel, rfl⟩
theorem kL_act_320 : Dk mtL_act 320 (.aload_n 0) 1 321 := ⟨by decide +kernel, rfl⟩
theorem kL_act_321 : Dk mtL_act 321 (.iconst 2) 1 322 := ⟨by decide +kernel, rfl⟩
theorem kL_act_322 : Dk mtL_act 322 (.iconst 1) 1 323 := ⟨by decide +kernel, rfl⟩
theorem kL_act_323 : Dk mtL_act 323 (.iload_n 2) 1 324 := ⟨by decide +kernel, rfl⟩
theorem kL_act_324 : Dk mtL_act 324 (.sipush 150) 3 327 := ⟨by decide +kernel, rfl⟩
theorem kL_act_327 : Dk mtL_act 327 (.invokestatic 28) 3 330 := ⟨by decide +kernel, rfl⟩
theorem kL_act_330 : Dk mtL_act 330 (.iadd) 1 331 := ⟨by decide +kernel, rfl⟩
theorem kL_act_331 : Dk mtL_act 331 (.invokevirtual 49) 3 334 := ⟨by decide +kernel, rfl⟩
theorem kL_act_334 : Dk mtL_act 334 (.ireturn) 1 335 := ⟨by decide +kernel, rfl⟩
theorem kL_act_335 : Dk mtL_act 335 (.aload_n 0) 1 336 := ⟨by decide +kernel, rfl⟩
theorem kL_act_336 : Dk mtL_act 336 (.iconst 1) 1 337 := ⟨by decide +kernel, rfl⟩
theorem kL_act_337 : Dk mtL_act 337 (.iload_n 2) 1 338 := ⟨by decide +kernel, rfl⟩
theorem kL_act_338 : Dk mtL_act 338 (.iload_n 2) 1 339 := ⟨by decide +kernel, rfl⟩
theorem kL_act_339 : Dk mtL_act 339 (.bipush 20) 2 341 := ⟨by decide +kernel, rfl⟩
theorem kL_act_341 : Dk mtL_act 341 (.ishr) 1 342 := ⟨by decide +kernel, rfl⟩
theorem kL_act_342 : Dk mtL_act 342 (.iconst 1) 1 343 := ⟨by decide +kernel, rfl⟩
theorem kL_act_343 : Dk mtL_act 343 (.iand) 1 344 := ⟨by decide +kernel, rfl⟩
theorem kL_act_344 : Dk mtL_act 344 (.ifCond .ne 7) 3 347 := ⟨by decide +kernel, rfl⟩
theorem kL_act_347 : Dk mtL_act 347 (.iconst 4) 1 348 := ⟨by decide +kernel, rfl⟩
theorem kL_act_348 : Dk mtL_act 348 (.goto 5) 3 351 := ⟨by decide +kernel, rfl⟩
theorem kL_act_351 : Dk mtL_act 351 (.bipush 60) 2 353 := ⟨by decide +kernel, rfl⟩
theorem kL_act_353 : Dk mtL_act 353 (.invokestatic 28) 3 356 := ⟨by decide +kernel, rfl⟩
theorem kL_act_356 : Dk mtL_act 356 (.iadd) 1 357 := ⟨by decide +kernel, rfl⟩
theorem kL_act_357 : Dk mtL_act 357 (.invokevirtual 52) 3 360 := ⟨by decide +kernel, rfl⟩
theorem kL_act_360 : Dk mtL_act 360 (.ireturn) 1 361 := ⟨by decide +kernel, rfl⟩
theorem lmL_28 : LkM RL 28 mtL_low := Or.inl (by decide +kernel)
theorem mkL_low : MkS mtL_low 2 := ⟨List.mem_of_getElem? (i := 660) (by decide +kernel), by decide +kernel, by decide +kernel, ⟨by decide +kernel, by decide +kernel, by decide +kernel⟩⟩
theorem mkX5_light : MkV mtX5_light 6 := ⟨List.mem_of_getElem? (i := 665) (by decide +kernel), by decide +kernel, by decide +kernel, by decide +kernel, ⟨by decide +kernel, by decide +kernel, by decide +kernel⟩⟩
theorem lxL_33 : Cond.methodLink RL 33 (mY mtX5_light) ∈ lw_tbl := by decide +kernel
theorem mkX5_boat : MkV mtX5_boat 2 := ⟨List.mem_of_getElem? (i := 681) (by decide +kernel), by decide +kernel, by decide +kernel, by decide +kernel, ⟨by decide +kernel, by decide +kernel, by decide +kernel⟩⟩
theorem lxL_37 : Cond.methodLink RL 37 (mY mtX5_boat) ∈ lw_tbl := by decide +kernel
theorem mkX5_steer : MkV mtX5_steer 2 := ⟨List.mem_of_getElem? (i := 687) (by decide +kernel), by decide +kernel, by decide +kernel, by decide +kernel, ⟨by decide +kernel, by decide +kernel, by decide +kernel⟩⟩
theorem lxL_40 : Cond.methodLink RL 40 (mY mtX5_steer) ∈ lw_tbl := by decide +kernel
theorem mkX5_talk : MkV mtX5_talk 2 := ⟨List.mem_of_getElem? (i := 693) (by decide +kernel), by decide +kernel, by decide +kernel, by decide +kernel, ⟨by decide +kernel, by decide +kernel, by decide +kernel⟩⟩
theorem lxL_43 : Cond.methodLink RL 43 (mY mtX5_talk) ∈ lw_tbl := by decide +kernel
theorem mkX5_dim : MkV mtX5_dim 2 := ⟨List.mem_of_getElem? (i := 699) (by decide +kernel), by decide +kernel, by decide +kernel, by decide +kernel, ⟨by decide +kernel, by decide +kernel, by decide +kernel⟩⟩
theorem lxL_46 : Cond.methodLink RL 46 (mY mtX5_dim) ∈ lw_tbl := by decide +kernel
theorem mkX5_set : MkV mtX5_set 2 := ⟨List.mem_of_getElem? (i := 705) (by decide +kernel), by decide +kernel, by decide +kernel, by decide +kernel, ⟨by decide +kernel, by decide +kernel, by decide +kernel⟩⟩
theorem lxL_49 : Cond.methodLink RL 49 (mY mtX5_set) ∈ lw_tbl := by decide +kernel
theorem mkX5_ticks : MkV mtX5_ticks 1 := ⟨List.mem_of_getElem? (i := 721) (by decide +kernel), by decide +kernel, by decide +kernel, by decide +kernel, ⟨by decide +kernel, by decide +kernel, by decide +kernel⟩⟩
theorem lxL_52 : Cond.methodLink RL 52 (mY mtX5_ticks) ∈ lw_tbl := by decide +kernel
set_option maxHeartbeats 4000000 in
set_option maxRecDepth 100000 in
theorem cp_act {l : Launch} {w : Wd} {sg : Sg} (hWr : Wr w) (hl0 : l.stackTraces = false) (v w_ : Int32) {x : Nat} {g : Gs} (hR : Rel sg (x + 4) g) (hI : Inv g) {N : Nat} {G : Nat → Gs} {K : Nat → Bool} {S : Nat → Gs} (hm : MRel sg (x + 40) N G K S) : MX l mtL_act w [vR (some (5, 0, x)), vI v, vI w_] sg (PA x N G K S g sg (F_act g v w_)) (pF) := by
  refine MX_of hl0 [some (vR (some (5, 0, x))), some (vI v), some (vI w_), none, none, none, none] rfl (Nat.le_of_ble_eq_true rfl) (by decide +kernel) ?_
  intro p_ e_ s_ m_ args_ below_ meth_ c_ hC hX hO
  refine V_aload_n hC kL_act_0 rfl ?_
  refine V_iconst hC (0) kL_act_1 (by decide) ?_
  refine V_cVf hC hX.1 (cf_about hWr hl0 (0) hR hI) (fun _ _ h => h.1) (Ka_0 (n := 0) (by decide)) mkX5_about lxL_12 kL_act_2 (Nat.le_of_ble_eq_true rfl) rfl rfl rfl (Nat.le_of_ble_eq_true rfl) ⟨(Nat.le_of_ble_eq_true rfl), (Nat.le_of_ble_eq_true rfl)⟩ ⟨rfl, rfl⟩ ⟨(by show _ ≤ 5; omega), (by show _ ≤ 30; omega)⟩ ?_
  rw [tells0]
  refine V_istore_n hC [some _, some _, some _, some _, none, none, none] kL_act_5 rfl (Nat.le_of_ble_eq_true rfl) ?_
  refine V_aload_n hC kL_act_6 rfl ?_
  refine V_iconst hC (1) kL_act_7 (by decide) ?_
  refine V_cVf hC hX.1 (cf_about hWr hl0 (1) hR hI) (fun _ _ h => h.1) (Ka_0 (n := 1) (by decide)) mkX5_about lxL_12 kL_act_8 (Nat.le_of_ble_eq_true rfl) rfl rfl rfl (Nat.le_of_ble_eq_true rfl) ⟨(Nat.le_of_ble_eq_true rfl), (Nat.le_of_ble_eq_true rfl)⟩ ⟨rfl, rfl⟩ ⟨(by show _ ≤ 5; omega), (by show _ ≤ 30; omega)⟩ ?_
  rw [tells1]
  refine V_istore hC [some _, some _, some _, some _, some _, none, none] kL_act_11 rfl (Nat.le_of_ble_eq_true rfl) ?_
  refine V_join 28 (a_l g v) ?_ (fun j28 => ?_)
  · refine V_istore hC [some _, some _, some _, some _, some _, some _, none] kL_act_28 rfl (Nat.le_of_ble_eq_true rfl) ?_
    refine V_join 47 (a_b g v) ?_ (fun j47 => ?_)
    · refine V_istore hC [some _, some _, some _, some _, some _, some _, some _] kL_act_47 rfl (Nat.le_of_ble_eq_true rfl) ?_
      refine V_iload_n hC kL_act_49 rfl ?_
      refine V_bipush hC (15) kL_act_50 (by decide) ?_
      refine V_iand hC kL_act_52 ?_
      obtain ⟨k, hk, ek⟩ := and15 v
      have hF : F_act g v w_ = F_actK g v w_ k := by unfold F_act; rw [ek, show tn (nI k) = k from nI_clamp (by omega)]
      rcases (show k = 0 ∨ k = 1 ∨ k = 2 ∨ k = 3 ∨ k = 4 ∨ k = 5 ∨ k = 6 ∨ k = 7 ∨ k = 8 ∨ k = 9 ∨ 10 ≤ k by omega) with e | e | e | e | e | e | e | e | e | e | e
      · subst e
        refine V_tabIn hC (55) 108 kL_act_53 (by rw [ek]; decide) (by rw [ek]; decide) (by rw [ek]; rfl) (by decide) ?_
        refine V_iload_n hC kL_act_108 rfl ?_
        refine V_bipush hC (6) kL_act_109 (by decide) ?_
        refine V_icmp_ne hC 119 kL_act_111 (by decide) (fun h111 => ?_) (fun h111 => ?_)
        · refine V_aload_n hC kL_act_119 rfl ?_
          refine V_iload_n hC kL_act_120 rfl ?_
          refine V_sipush hC (200) kL_act_121 (by decide) ?_
          refine V_cS_fI hC (cp_low hWr _ 200 (by decide)) mkL_low lmL_28 kL_act_124 rfl rfl (Nat.le_of_ble_eq_true rfl) ⟨(Nat.le_of_ble_eq_true rfl), (Nat.le_of_ble_eq_true rfl)⟩ ⟨rfl, rfl⟩ ⟨(by show _ ≤ 5; omega), (by show _ ≤ 30; omega)⟩ ?_
          refine V_bipush hC (10) kL_act_127 (by decide) ?_
          refine V_iload_n hC kL_act_129 rfl ?_
          refine V_iconst hC (4) kL_act_130 (by decide) ?_
          refine V_ishr hC kL_act_131 ?_
          refine V_bipush hC (90) kL_act_132 (by decide) ?_
          refine V_cS_fI hC (cp_low hWr _ 90 (by decide)) mkL_low lmL_28 kL_act_134 rfl rfl (Nat.le_of_ble_eq_true rfl) ⟨(Nat.le_of_ble_eq_true rfl), (Nat.le_of_ble_eq_true rfl)⟩ ⟨rfl, rfl⟩ ⟨(by show _ ≤ 5; omega), (by show _ ≤ 30; omega)⟩ ?_
          refine V_iadd hC kL_act_137 ?_
          refine V_iload_n hC kL_act_138 rfl ?_
          refine V_bipush hC (8) kL_act_139 (by decide) ?_
          refine V_ishr hC kL_act_141 ?_
          refine V_iconst hC (3) kL_act_142 (by decide) ?_
          refine V_cS_fI hC (cp_low hWr _ 3 (by decide)) mkL_low lmL_28 kL_act_143 rfl rfl (Nat.le_of_ble_eq_true rfl) ⟨(Nat.le_of_ble_eq_true rfl), (Nat.le_of_ble_eq_true rfl)⟩ ⟨rfl, rfl⟩ ⟨(by show _ ≤ 5; omega), (by show _ ≤ 30; omega)⟩ ?_
          refine V_iconst hC (1) kL_act_146 (by decide) ?_
          refine V_iload_n hC kL_act_147 rfl ?_
          refine V_bipush hC (10) kL_act_148 (by decide) ?_
          refine V_ishr hC kL_act_150 ?_
          refine V_bipush hC (20) kL_act_151 (by decide) ?_
          refine V_cS_fI hC (cp_low hWr _ 20 (by decide)) mkL_low lmL_28 kL_act_153 rfl rfl (Nat.le_of_ble_eq_true rfl) ⟨(Nat.le_of_ble_eq_true rfl), (Nat.le_of_ble_eq_true rfl)⟩ ⟨rfl, rfl⟩ ⟨(by show _ ≤ 5; omega), (by show _ ≤ 30; omega)⟩ ?_
          refine V_iadd hC kL_act_156 ?_
          refine V_iconst hC (2) kL_act_157 (by decide) ?_
          refine V_iload_n hC kL_act_158 rfl ?_
          refine V_bipush hC (13) kL_act_159 (by decide) ?_
          refine V_ishr hC kL_act_161 ?_
          refine V_iconst hC (4) kL_act_162 (by decide) ?_
          refine V_cS_fI hC (cp_low hWr _ 4 (by decide)) mkL_low lmL_28 kL_act_163 rfl rfl (Nat.le_of_ble_eq_true rfl) ⟨(Nat.le_of_ble_eq_true rfl), (Nat.le_of_ble_eq_true rfl)⟩ ⟨rfl, rfl⟩ ⟨(by show _ ≤ 5; omega), (by show _ ≤ 30; omega)⟩ ?_
          refine V_iadd hC kL_act_166 ?_
          refine V_iload_n hC kL_act_167 rfl ?_
          refine V_bipush hC (15) kL_act_168 (by decide) ?_
          refine V_ishr hC kL_act_170 ?_
          refine V_iconst hC (3) kL_act_171 (by decide) ?_
          refine V_cS_fI hC (cp_low hWr _ 3 (by decide)) mkL_low lmL_28 kL_act_172 rfl rfl (Nat.le_of_ble_eq_true rfl) ⟨(Nat.le_of_ble_eq_true rfl), (Nat.le_of_ble_eq_true rfl)⟩ ⟨rfl, rfl⟩ ⟨(by show _ ≤ 5; omega), (by show _ ≤ 30; omega)⟩ ?_
          refine V_cV0 hC hX.1 (cf_light hWr hl0 (aQ w_) (aSt w_) (aK w_) (aN w_) (aBo w_) (aRe w_) hR hI hm) (fun _ _ h => h.1) ((kL hI w_ h111).1) mkX5_light lxL_33 kL_act_175 (Nat.le_of_ble_eq_true rfl) rfl rfl rfl (Nat.le_of_ble_eq_true rfl) ⟨(Nat.le_of_ble_eq_true rfl), (Nat.le_of_ble_eq_true rfl)⟩ ⟨rfl, rfl⟩ ⟨(by show _ ≤ 5; omega), (by show _ ≤ 30; omega)⟩ (fun x175 g175 h175 => ?_)
          refine V_iretiX hC rfl kL_act_178 ⟨(by show _ ≤ 5; omega), (by show _ ≤ 30; omega)⟩ ?_
          first
          | (rw [hF, show F_actK g v w_ 0 = none from (if_pos (by decide)).trans (if_pos h111)]; exact ⟨rfl, rfl⟩)
          | (rw [hF, show F_actK g v w_ 0 = some (g 4, F_addLight g (aQ w_) (aSt w_) (aK w_) (aN w_) (aBo w_) (aRe w_)) from (if_pos (by decide)).trans (if_neg h111)]; exact ⟨congrArg (fun z => some (vI z)) h175.1, h175.2⟩)
          | (rw [hF, show F_actK g v w_ 1 = none from (if_pos (by decide)).trans (if_pos h111)]; exact ⟨rfl, rfl⟩)
          | (rw [hF, show F_actK g v w_ 1 = some (g 4, F_addLight g (aQ w_) (aSt w_) (aK w_) (aN w_) (aBo w_) (aRe w_)) from (if_pos (by decide)).trans (if_neg h111)]; exact ⟨congrArg (fun z => some (vI z)) h175.1, h175.2⟩)
        · refine V_bipush hC (-9) kL_act_114 (by decide) ?_
          refine V_goto hC 178 kL_act_116 (by decide) ?_
          refine V_iretiX hC rfl kL_act_178 ⟨(by show _ ≤ 5; omega), (by show _ ≤ 30; omega)⟩ ?_
          first
          | (rw [hF, show F_actK g v w_ 0 = none from (if_pos (by decide)).trans (if_pos h111)]; exact ⟨rfl, rfl⟩)
          | (rw [hF, show F_actK g v w_ 0 = some (g 4, F_addLight g (aQ w_) (aSt w_) (aK w_) (aN w_) (aBo w_) (aRe w_)) from (if_pos (by decide)).trans (if_neg h111)]; exact ⟨congrArg (fun z => some (vI z)) h175.1, h175.2⟩)
          | (rw [hF, show F_actK g v w_ 1 = none from (if_pos (by decide)).trans (if_pos h111)]; exact ⟨rfl, rfl⟩)
          | (rw [hF, show F_actK g v w_ 1 = some (g 4, F_addLight g (aQ w_) (aSt w_) (aK w_) (aN w_) (aBo w_) (aRe w_)) from (if_pos (by decide)).trans (if_neg h111)]; exact ⟨congrArg (fun z => some (vI z)) h175.1, h175.2⟩)
      · subst e
        refine V_tabIn hC (55) 108 kL_act_53 (by rw [ek]; decide) (by rw [ek]; decide) (by rw [ek]; rfl) (by decide) ?_
        refine V_iload_n hC kL_act_108 rfl ?_
        refine V_bipush hC (6) kL_act_109 (by decide) ?_
        refine V_icmp_ne hC 119 kL_act_111 (by decide) (fun h111 => ?_) (fun h111 => ?_)
        · refine V_aload_n hC kL_act_119 rfl ?_
          refine V_iload_n hC kL_act_120 rfl ?_
          refine V_sipush hC (200) kL_act_121 (by decide) ?_
          refine V_cS_fI hC (cp_low hWr _ 200 (by decide)) mkL_low lmL_28 kL_act_124 rfl rfl (Nat.le_of_ble_eq_true rfl) ⟨(Nat.le_of_ble_eq_true rfl), (Nat.le_of_ble_eq_true rfl)⟩ ⟨rfl, rfl⟩ ⟨(by show _ ≤ 5; omega), (by show _ ≤ 30; omega)⟩ ?_
          refine V_bipush hC (10) kL_act_127 (by decide) ?_
          refine V_iload_n hC kL_act_129 rfl ?_
          refine V_iconst hC (4) kL_act_130 (by decide) ?_
          refine V_ishr hC kL_act_131 ?_
          refine V_bipush hC (90) kL_act_132 (by decide) ?_
          refine V_cS_fI hC (cp_low hWr _ 90 (by decide)) mkL_low lmL_28 kL_act_134 rfl rfl (Nat.le_of_ble_eq_true rfl) ⟨(Nat.le_of_ble_eq_true rfl), (Nat.le_of_ble_eq_true rfl)⟩ ⟨rfl, rfl⟩ ⟨(by show _ ≤ 5; omega), (by show _ ≤ 30; omega)⟩ ?_
          refine V_iadd hC kL_act_137 ?_
          refine V_iload_n hC kL_act_138 rfl ?_
          refine V_bipush hC (8) kL_act_139 (by decide) ?_
          refine V_ishr hC kL_act_141 ?_
          refine V_iconst hC (3) kL_act_142 (by decide) ?_
          refine V_cS_fI hC (cp_low hWr _ 3 (by decide)) mkL_low lmL_28 kL_act_143 rfl rfl (Nat.le_of_ble_eq_true rfl) ⟨(Nat.le_of_ble_eq_true rfl), (Nat.le_of_ble_eq_true rfl)⟩ ⟨rfl, rfl⟩ ⟨(by show _ ≤ 5; omega), (by show _ ≤ 30; omega)⟩ ?_
          refine V_iconst hC (1) kL_act_146 (by decide) ?_
          refine V_iload_n hC kL_act_147 rfl ?_
          refine V_bipush hC (10) kL_act_148 (by decide) ?_
          refine V_ishr hC kL_act_150 ?_
          refine V_bipush hC (20) kL_act_151 (by decide) ?_
          refine V_cS_fI hC (cp_low hWr _ 20 (by decide)) mkL_low lmL_28 kL_act_153 rfl rfl (Nat.le_of_ble_eq_true rfl) ⟨(Nat.le_of_ble_eq_true rfl), (Nat.le_of_ble_eq_true rfl)⟩ ⟨rfl, rfl⟩ ⟨(by show _ ≤ 5; omega), (by show _ ≤ 30; omega)⟩ ?_
          refine V_iadd hC kL_act_156 ?_
          refine V_iconst hC (2) kL_act_157 (by decide) ?_
          refine V_iload_n hC kL_act_158 rfl ?_
          refine V_bipush hC (13) kL_act_159 (by decide) ?_
          refine V_ishr hC kL_act_161 ?_
          refine V_iconst hC (4) kL_act_162 (by decide) ?_
          refine V_cS_fI hC (cp_low hWr _ 4 (by decide)) mkL_low lmL_28 kL_act_163 rfl rfl (Nat.le_of_ble_eq_true rfl) ⟨(Nat.le_of_ble_eq_true rfl), (Nat.le_of_ble_eq_true rfl)⟩ ⟨rfl, rfl⟩ ⟨(by show _ ≤ 5; omega), (by show _ ≤ 30; omega)⟩ ?_
          refine V_iadd hC kL_act_166 ?_
          refine V_iload_n hC kL_act_167 rfl ?_
          refine V_bipush hC (15) kL_act_168 (by decide) ?_
          refine V_ishr hC kL_act_170 ?_
          refine V_iconst hC (3) kL_act_171 (by decide) ?_
          refine V_cS_fI hC (cp_low hWr _ 3 (by decide)) mkL_low lmL_28 kL_act_172 rfl rfl (Nat.le_of_ble_eq_true rfl) ⟨(Nat.le_of_ble_eq_true rfl), (Nat.le_of_ble_eq_true rfl)⟩ ⟨rfl, rfl⟩ ⟨(by show _ ≤ 5; omega), (by show _ ≤ 30; omega)⟩ ?_
          refine V_cV0 hC hX.1 (cf_light hWr hl0 (aQ w_) (aSt w_) (aK w_) (aN w_) (aBo w_) (aRe w_) hR hI hm) (fun _ _ h => h.1) ((kL hI w_ h111).1) mkX5_light lxL_33 kL_act_175 (Nat.le_of_ble_eq_true rfl) rfl rfl rfl (Nat.le_of_ble_eq_true rfl) ⟨(Nat.le_of_ble_eq_true rfl), (Nat.le_of_ble_eq_true rfl)⟩ ⟨rfl, rfl⟩ ⟨(by show _ ≤ 5; omega), (by show _ ≤ 30; omega)⟩ (fun x175 g175 h175 => ?_)
          refine V_iretiX hC rfl kL_act_178 ⟨(by show _ ≤ 5; omega), (by show _ ≤ 30; omega)⟩ ?_
          first
          | (rw [hF, show F_actK g v w_ 0 = none from (if_pos (by decide)).trans (if_pos h111)]; exact ⟨rfl, rfl⟩)
          | (rw [hF, show F_actK g v w_ 0 = some (g 4, F_addLight g (aQ w_) (aSt w_) (aK w_) (aN w_) (aBo w_) (aRe w_)) from (if_pos (by decide)).trans (if_neg h111)]; exact ⟨congrArg (fun z => some (vI z)) h175.1, h175.2⟩)
          | (rw [hF, show F_actK g v w_ 1 = none from (if_pos (by decide)).trans (if_pos h111)]; exact ⟨rfl, rfl⟩)
          | (rw [hF, show F_actK g v w_ 1 = some (g 4, F_addLight g (aQ w_) (aSt w_) (aK w_) (aN w_) (aBo w_) (aRe w_)) from (if_pos (by decide)).trans (if_neg h111)]; exact ⟨congrArg (fun z => some (vI z)) h175.1, h175.2⟩)
        · refine V_bipush hC (-9) kL_act_114 (by decide) ?_
          refine V_goto hC 178 kL_act_116 (by decide) ?_
          refine V_iretiX hC rfl kL_act_178 ⟨(by show _ ≤ 5; omega), (by show _ ≤ 30; omega)⟩ ?_
          first
          | (rw [hF, show F_actK g v w_ 0 = none from (if_pos (by decide)).trans (if_pos h111)]; exact ⟨rfl, rfl⟩)
          | (rw [hF, show F_actK g v w_ 0 = some (g 4, F_addLight g (aQ w_) (aSt w_) (aK w_) (aN w_) (aBo w_) (aRe w_)) from (if_pos (by decide)).trans (if_neg h111)]; exact ⟨congrArg (fun z => some (vI z)) h175.1, h175.2⟩)
          | (rw [hF, show F_actK g v w_ 1 = none from (if_pos (by decide)).trans (if_pos h111)]; exact ⟨rfl, rfl⟩)
          | (rw [hF, show F_actK g v w_ 1 = some (g 4, F_addLight g (aQ w_) (aSt w_) (aK w_) (aN w_) (aBo w_) (aRe w_)) from (if_pos (by decide)).trans (if_neg h111)]; exact ⟨congrArg (fun z => some (vI z)) h175.1, h175.2⟩)
      · subst e
        refine V_tabIn hC (126) 179 kL_act_53 (by rw [ek]; decide) (by rw [ek]; decide) (by rw [ek]; rfl) (by decide) ?_
        refine V_iload hC kL_act_179 rfl ?_
        refine V_bipush hC (8) kL_act_181 (by decide) ?_
        refine V_icmp_ne hC 191 kL_act_183 (by decide) (fun h183 => ?_) (fun h183 => ?_)
        · refine V_aload_n hC kL_act_191 rfl ?_
          refine V_iload_n hC kL_act_192 rfl ?_
          refine V_sipush hC (200) kL_act_193 (by decide) ?_
          refine V_cS_fI hC (cp_low hWr _ 200 (by decide)) mkL_low lmL_28 kL_act_196 rfl rfl (Nat.le_of_ble_eq_true rfl) ⟨(Nat.le_of_ble_eq_true rfl), (Nat.le_of_ble_eq_true rfl)⟩ ⟨rfl, rfl⟩ ⟨(by show _ ≤ 5; omega), (by show _ ≤ 30; omega)⟩ ?_
          refine V_iload_n hC kL_act_199 rfl ?_
          refine V_iconst hC (5) kL_act_200 (by decide) ?_
          refine V_ishr hC kL_act_201 ?_
          refine V_bipush hC (13) kL_act_202 (by decide) ?_
          refine V_cS_fI hC (cp_low hWr _ 13 (by decide)) mkL_low lmL_28 kL_act_204 rfl rfl (Nat.le_of_ble_eq_true rfl) ⟨(Nat.le_of_ble_eq_true rfl), (Nat.le_of_ble_eq_true rfl)⟩ ⟨rfl, rfl⟩ ⟨(by show _ ≤ 5; omega), (by show _ ≤ 30; omega)⟩ ?_
          refine V_bipush hC (6) kL_act_207 (by decide) ?_
          refine V_isub hC kL_act_209 ?_
          refine V_cV0 hC hX.1 (cf_boat hWr hl0 (aQ w_) (aSp w_) hR hI hm) (fun _ _ h => h.1) ((kB hI w_ h183).1) mkX5_boat lxL_37 kL_act_210 (Nat.le_of_ble_eq_true rfl) rfl rfl rfl (Nat.le_of_ble_eq_true rfl) ⟨(Nat.le_of_ble_eq_true rfl), (Nat.le_of_ble_eq_true rfl)⟩ ⟨rfl, rfl⟩ ⟨(by show _ ≤ 5; omega), (by show _ ≤ 30; omega)⟩ (fun x210 g210 h210 => ?_)
          refine V_iretiX hC rfl kL_act_213 ⟨(by show _ ≤ 5; omega), (by show _ ≤ 30; omega)⟩ ?_
          first
          | (rw [hF, show F_actK g v w_ 2 = none from (if_neg (by decide)).trans ((if_pos (by decide)).trans (if_pos h183))]; exact ⟨rfl, rfl⟩)
          | (rw [hF, show F_actK g v w_ 2 = some (g 5, F_addBoat g (aQ w_) (aSp w_)) from (if_neg (by decide)).trans ((if_pos (by decide)).trans (if_neg h183))]; exact ⟨congrArg (fun z => some (vI z)) h210.1, h210.2⟩)
          | (rw [hF, show F_actK g v w_ 3 = none from (if_neg (by decide)).trans ((if_pos (by decide)).trans (if_pos h183))]; exact ⟨rfl, rfl⟩)
          | (rw [hF, show F_actK g v w_ 3 = some (g 5, F_addBoat g (aQ w_) (aSp w_)) from (if_neg (by decide)).trans ((if_pos (by decide)).trans (if_neg h183))]; exact ⟨congrArg (fun z => some (vI z)) h210.1, h210.2⟩)
        · refine V_bipush hC (-9) kL_act_186 (by decide) ?_
          refine V_goto hC 213 kL_act_188 (by decide) ?_
          refine V_iretiX hC rfl kL_act_213 ⟨(by show _ ≤ 5; omega), (by show _ ≤ 30; omega)⟩ ?_
          first
          | (rw [hF, show F_actK g v w_ 2 = none from (if_neg (by decide)).trans ((if_pos (by decide)).trans (if_pos h183))]; exact ⟨rfl, rfl⟩)
          | (rw [hF, show F_actK g v w_ 2 = some (g 5, F_addBoat g (aQ w_) (aSp w_)) from (if_neg (by decide)).trans ((if_pos (by decide)).trans (if_neg h183))]; exact ⟨congrArg (fun z => some (vI z)) h210.1, h210.2⟩)
          | (rw [hF, show F_actK g v w_ 3 = none from (if_neg (by decide)).trans ((if_pos (by decide)).trans (if_pos h183))]; exact ⟨rfl, rfl⟩)
          | (rw [hF, show F_actK g v w_ 3 = some (g 5, F_addBoat g (aQ w_) (aSp w_)) from (if_neg (by decide)).trans ((if_pos (by decide)).trans (if_neg h183))]; exact ⟨congrArg (fun z => some (vI z)) h210.1, h210.2⟩)
      · subst e
        refine V_tabIn hC (126) 179 kL_act_53 (by rw [ek]; decide) (by rw [ek]; decide) (by rw [ek]; rfl) (by decide) ?_
        refine V_iload hC kL_act_179 rfl ?_
        refine V_bipush hC (8) kL_act_181 (by decide) ?_
        refine V_icmp_ne hC 191 kL_act_183 (by decide) (fun h183 => ?_) (fun h183 => ?_)
        · refine V_aload_n hC kL_act_191 rfl ?_
          refine V_iload_n hC kL_act_192 rfl ?_
          refine V_sipush hC (200) kL_act_193 (by decide) ?_
          refine V_cS_fI hC (cp_low hWr _ 200 (by decide)) mkL_low lmL_28 kL_act_196 rfl rfl (Nat.le_of_ble_eq_true rfl) ⟨(Nat.le_of_ble_eq_true rfl), (Nat.le_of_ble_eq_true rfl)⟩ ⟨rfl, rfl⟩ ⟨(by show _ ≤ 5; omega), (by show _ ≤ 30; omega)⟩ ?_
          refine V_iload_n hC kL_act_199 rfl ?_
          refine V_iconst hC (5) kL_act_200 (by decide) ?_
          refine V_ishr hC kL_act_201 ?_
          refine V_bipush hC (13) kL_act_202 (by decide) ?_
          refine V_cS_fI hC (cp_low hWr _ 13 (by decide)) mkL_low lmL_28 kL_act_204 rfl rfl (Nat.le_of_ble_eq_true rfl) ⟨(Nat.le_of_ble_eq_true rfl), (Nat.le_of_ble_eq_true rfl)⟩ ⟨rfl, rfl⟩ ⟨(by show _ ≤ 5; omega), (by show _ ≤ 30; omega)⟩ ?_
          refine V_bipush hC (6) kL_act_207 (by decide) ?_
          refine V_isub hC kL_act_209 ?_
          refine V_cV0 hC hX.1 (cf_boat hWr hl0 (aQ w_) (aSp w_) hR hI hm) (fun _ _ h => h.1) ((kB hI w_ h183).1) mkX5_boat lxL_37 kL_act_210 (Nat.le_of_ble_eq_true rfl) rfl rfl rfl (Nat.le_of_ble_eq_true rfl) ⟨(Nat.le_of_ble_eq_true rfl), (Nat.le_of_ble_eq_true rfl)⟩ ⟨rfl, rfl⟩ ⟨(by show _ ≤ 5; omega), (by show _ ≤ 30; omega)⟩ (fun x210 g210 h210 => ?_)
          refine V_iretiX hC rfl kL_act_213 ⟨(by show _ ≤ 5; omega), (by show _ ≤ 30; omega)⟩ ?_
          first
          | (rw [hF, show F_actK g v w_ 2 = none from (if_neg (by decide)).trans ((if_pos (by decide)).trans (if_pos h183))]; exact ⟨rfl, rfl⟩)
          | (rw [hF, show F_actK g v w_ 2 = some (g 5, F_addBoat g (aQ w_) (aSp w_)) from (if_neg (by decide)).trans ((if_pos (by decide)).trans (if_neg h183))]; exact ⟨congrArg (fun z => some (vI z)) h210.1, h210.2⟩)
          | (rw [hF, show F_actK g v w_ 3 = none from (if_neg (by decide)).trans ((if_pos (by decide)).trans (if_pos h183))]; exact ⟨rfl, rfl⟩)
          | (rw [hF, show F_actK g v w_ 3 = some (g 5, F_addBoat g (aQ w_) (aSp w_)) from (if_neg (by decide)).trans ((if_pos (by decide)).trans (if_neg h183))]; exact ⟨congrArg (fun z => some (vI z)) h210.1, h210.2⟩)
        · refine V_bipush hC (-9) kL_act_186 (by decide) ?_
          refine V_goto hC 213 kL_act_188 (by decide) ?_
          refine V_iretiX hC rfl kL_act_213 ⟨(by show _ ≤ 5; omega), (by show _ ≤ 30; omega)⟩ ?_
          first
          | (rw [hF, show F_actK g v w_ 2 = none from (if_neg (by decide)).trans ((if_pos (by decide)).trans (if_pos h183))]; exact ⟨rfl, rfl⟩)
          | (rw [hF, show F_actK g v w_ 2 = some (g 5, F_addBoat g (aQ w_) (aSp w_)) from (if_neg (by decide)).trans ((if_pos (by decide)).trans (if_neg h183))]; exact ⟨congrArg (fun z => some (vI z)) h210.1, h210.2⟩)
          | (rw [hF, show F_actK g v w_ 3 = none from (if_neg (by decide)).trans ((if_pos (by decide)).trans (if_pos h183))]; exact ⟨rfl, rfl⟩)
          | (rw [hF, show F_actK g v w_ 3 = some (g 5, F_addBoat g (aQ w_) (aSp w_)) from (if_neg (by decide)).trans ((if_pos (by decide)).trans (if_neg h183))]; exact ⟨congrArg (fun z => some (vI z)) h210.1, h210.2⟩)
      · subst e
        refine V_tabIn hC (161) 214 kL_act_53 (by rw [ek]; decide) (by rw [ek]; decide) (by rw [ek]; rfl) (by decide) ?_
        refine V_iload hC kL_act_214 rfl ?_
        refine V_if_ne hC 224 kL_act_216 (by decide) (fun h216 => ?_) (fun h216 => ?_)
        · refine V_aload_n hC kL_act_224 rfl ?_
          refine V_iload hC kL_act_225 rfl ?_
          refine V_iload_n hC kL_act_227 rfl ?_
          refine V_bipush hC (13) kL_act_228 (by decide) ?_
          refine V_cS_fI hC (cp_low hWr _ 13 (by decide)) mkL_low lmL_28 kL_act_230 rfl rfl (Nat.le_of_ble_eq_true rfl) ⟨(Nat.le_of_ble_eq_true rfl), (Nat.le_of_ble_eq_true rfl)⟩ ⟨rfl, rfl⟩ ⟨(by show _ ≤ 5; omega), (by show _ ≤ 30; omega)⟩ ?_
          refine V_bipush hC (6) kL_act_233 (by decide) ?_
          refine V_isub hC kL_act_235 ?_
          refine V_cV0 hC hX.1 (cf_steer hWr hl0 (a_b g v) (F_low w_ 13 - 6) hR hI hm) (fun _ _ h => h.1) ((kS hI v w_ h216).1) mkX5_steer lxL_40 kL_act_236 (Nat.le_of_ble_eq_true rfl) rfl rfl rfl (Nat.le_of_ble_eq_true rfl) ⟨(Nat.le_of_ble_eq_true rfl), (Nat.le_of_ble_eq_true rfl)⟩ ⟨rfl, rfl⟩ ⟨(by show _ ≤ 5; omega), (by show _ ≤ 30; omega)⟩ (fun x236 g236 h236 => ?_)
          refine V_iretiX hC rfl kL_act_239 ⟨(by show _ ≤ 5; omega), (by show _ ≤ 30; omega)⟩ ?_
          first
          | (rw [hF, show F_actK g v w_ 4 = none from (if_neg (by decide)).trans ((if_neg (by decide)).trans ((if_pos (by decide)).trans (if_pos h216)))]; exact ⟨rfl, rfl⟩)
          | (rw [hF, show F_actK g v w_ 4 = some (gB g (a_b g v) 1, pB g (a_b g v) 1 (F_low w_ 13 - 6)) from (if_neg (by decide)).trans ((if_neg (by decide)).trans ((if_pos (by decide)).trans (if_neg h216)))]; exact ⟨congrArg (fun z => some (vI z)) h236.1, h236.2⟩)
        · refine V_bipush hC (-9) kL_act_219 (by decide) ?_
          refine V_goto hC 239 kL_act_221 (by decide) ?_
          refine V_iretiX hC rfl kL_act_239 ⟨(by show _ ≤ 5; omega), (by show _ ≤ 30; omega)⟩ ?_
          first
          | (rw [hF, show F_actK g v w_ 4 = none from (if_neg (by decide)).trans ((if_neg (by decide)).trans ((if_pos (by decide)).trans (if_pos h216)))]; exact ⟨rfl, rfl⟩)
          | (rw [hF, show F_actK g v w_ 4 = some (gB g (a_b g v) 1, pB g (a_b g v) 1 (F_low w_ 13 - 6)) from (if_neg (by decide)).trans ((if_neg (by decide)).trans ((if_pos (by decide)).trans (if_neg h216)))]; exact ⟨congrArg (fun z => some (vI z)) h236.1, h236.2⟩)
      · subst e
        refine V_tabIn hC (187) 240 kL_act_53 (by rw [ek]; decide) (by rw [ek]; decide) (by rw [ek]; rfl) (by decide) ?_
        refine V_iload hC kL_act_240 rfl ?_
        refine V_if_eq hC 255 kL_act_242 (by decide) (fun h242 => ?_) (fun h242 => ?_)
        · refine V_bipush hC (-9) kL_act_255 (by decide) ?_
          refine V_goto hC 274 kL_act_257 (by decide) ?_
          refine V_iretiX hC rfl kL_act_274 ⟨(by show _ ≤ 5; omega), (by show _ ≤ 30; omega)⟩ ?_
          first
          | (rw [hF, show F_actK g v w_ 5 = none from (if_neg (by decide)).trans ((if_neg (by decide)).trans ((if_neg (by decide)).trans ((if_pos (by decide)).trans (if_pos (Or.inl h242)))))]; exact ⟨rfl, rfl⟩)
          | (rw [hF, show F_actK g v w_ 5 = none from (if_neg (by decide)).trans ((if_neg (by decide)).trans ((if_neg (by decide)).trans ((if_pos (by decide)).trans (if_pos (Or.inr (Int32.not_le.mp h252))))))]; exact ⟨rfl, rfl⟩)
          | (rw [hF, show F_actK g v w_ 5 = some (gB g (a_b g v) 3, pB g (a_b g v) 3 (1 + F_low w_ 99)) from (if_neg (by decide)).trans ((if_neg (by decide)).trans ((if_neg (by decide)).trans ((if_pos (by decide)).trans (if_neg (fun z => z.elim h242 (fun z => absurd z (Int32.not_lt.mpr h252)))))))]; exact ⟨congrArg (fun z => some (vI z)) h271.1, h271.2⟩)
          | (rw [hF, show F_actK g v w_ 6 = none from (if_neg (by decide)).trans ((if_neg (by decide)).trans ((if_neg (by decide)).trans ((if_pos (by decide)).trans (if_pos (Or.inl h242)))))]; exact ⟨rfl, rfl⟩)
          | (rw [hF, show F_actK g v w_ 6 = none from (if_neg (by decide)).trans ((if_neg (by decide)).trans ((if_neg (by decide)).trans ((if_pos (by decide)).trans (if_pos (Or.inr (Int32.not_le.mp h252))))))]; exact ⟨rfl, rfl⟩)
          | (rw [hF, show F_actK g v w_ 6 = some (gB g (a_b g v) 3, pB g (a_b g v) 3 (1 + F_low w_ 99)) from (if_neg (by decide)).trans ((if_neg (by decide)).trans ((if_neg (by decide)).trans ((if_pos (by decide)).trans (if_neg (fun z => z.elim h242 (fun z => absurd z (Int32.not_lt.mpr h252)))))))]; exact ⟨congrArg (fun z => some (vI z)) h271.1, h271.2⟩)
        · refine V_aload_n hC kL_act_245 rfl ?_
          refine V_iload hC kL_act_246 rfl ?_
          refine V_iconst hC (2) kL_act_248 (by decide) ?_
          refine V_cVf hC hX.1 (cf_boatOf hWr hl0 (a_b g v) (2) hR hI) (fun _ _ h => h.1) (kBo hI v h242) mkX5_boatOf lxL_22 kL_act_249 (Nat.le_of_ble_eq_true rfl) rfl rfl rfl (Nat.le_of_ble_eq_true rfl) ⟨(Nat.le_of_ble_eq_true rfl), (Nat.le_of_ble_eq_true rfl)⟩ ⟨rfl, rfl⟩ ⟨(by show _ ≤ 5; omega), (by show _ ≤ 30; omega)⟩ ?_
          refine V_if_ge hC 260 kL_act_252 (by decide) (fun h252 => ?_) (fun h252 => ?_)
          · refine V_aload_n hC kL_act_260 rfl ?_
            refine V_iload hC kL_act_261 rfl ?_
            refine V_iconst hC (1) kL_act_263 (by decide) ?_
            refine V_iload_n hC kL_act_264 rfl ?_
            refine V_bipush hC (99) kL_act_265 (by decide) ?_
            refine V_cS_fI hC (cp_low hWr _ 99 (by decide)) mkL_low lmL_28 kL_act_267 rfl rfl (Nat.le_of_ble_eq_true rfl) ⟨(Nat.le_of_ble_eq_true rfl), (Nat.le_of_ble_eq_true rfl)⟩ ⟨rfl, rfl⟩ ⟨(by show _ ≤ 5; omega), (by show _ ≤ 30; omega)⟩ ?_
            refine V_iadd hC kL_act_270 ?_
            refine V_cV0 hC hX.1 (cf_talk hWr hl0 (a_b g v) (1 + F_low w_ 99) hR hI hm) (fun _ _ h => h.1) ((kT hI v w_ h242 (Int32.not_lt.mpr h252)).1) mkX5_talk lxL_43 kL_act_271 (Nat.le_of_ble_eq_true rfl) rfl rfl rfl (Nat.le_of_ble_eq_true rfl) ⟨(Nat.le_of_ble_eq_true rfl), (Nat.le_of_ble_eq_true rfl)⟩ ⟨rfl, rfl⟩ ⟨(by show _ ≤ 5; omega), (by show _ ≤ 30; omega)⟩ (fun x271 g271 h271 => ?_)
            refine V_iretiX hC rfl kL_act_274 ⟨(by show _ ≤ 5; omega), (by show _ ≤ 30; omega)⟩ ?_
            first
            | (rw [hF, show F_actK g v w_ 5 = none from (if_neg (by decide)).trans ((if_neg (by decide)).trans ((if_neg (by decide)).trans ((if_pos (by decide)).trans (if_pos (Or.inl h242)))))]; exact ⟨rfl, rfl⟩)
            | (rw [hF, show F_actK g v w_ 5 = none from (if_neg (by decide)).trans ((if_neg (by decide)).trans ((if_neg (by decide)).trans ((if_pos (by decide)).trans (if_pos (Or.inr (Int32.not_le.mp h252))))))]; exact ⟨rfl, rfl⟩)
            | (rw [hF, show F_actK g v w_ 5 = some (gB g (a_b g v) 3, pB g (a_b g v) 3 (1 + F_low w_ 99)) from (if_neg (by decide)).trans ((if_neg (by decide)).trans ((if_neg (by decide)).trans ((if_pos (by decide)).trans (if_neg (fun z => z.elim h242 (fun z => absurd z (Int32.not_lt.mpr h252)))))))]; exact ⟨congrArg (fun z => some (vI z)) h271.1, h271.2⟩)
            | (rw [hF, show F_actK g v w_ 6 = none from (if_neg (by decide)).trans ((if_neg (by decide)).trans ((if_neg (by decide)).trans ((if_pos (by decide)).trans (if_pos (Or.inl h242)))))]; exact ⟨rfl, rfl⟩)
            | (rw [hF, show F_actK g v w_ 6 = none from (if_neg (by decide)).trans ((if_neg (by decide)).trans ((if_neg (by decide)).trans ((if_pos (by decide)).trans (if_pos (Or.inr (Int32.not_le.mp h252))))))]; exact ⟨rfl, rfl⟩)
            | (rw [hF, show F_actK g v w_ 6 = some (gB g (a_b g v) 3, pB g (a_b g v) 3 (1 + F_low w_ 99)) from (if_neg (by decide)).trans ((if_neg (by decide)).trans ((if_neg (by decide)).trans ((if_pos (by decide)).trans (if_neg (fun z => z.elim h242 (fun z => absurd z (Int32.not_lt.mpr h252)))))))]; exact ⟨congrArg (fun z => some (vI z)) h271.1, h271.2⟩)
          · refine V_bipush hC (-9) kL_act_255 (by decide) ?_
            refine V_goto hC 274 kL_act_257 (by decide) ?_
            refine V_iretiX hC rfl kL_act_274 ⟨(by show _ ≤ 5; omega), (by show _ ≤ 30; omega)⟩ ?_
            first
            | (rw [hF, show F_actK g v w_ 5 = none from (if_neg (by decide)).trans ((if_neg (by decide)).trans ((if_neg (by decide)).trans ((if_pos (by decide)).trans (if_pos (Or.inl h242)))))]; exact ⟨rfl, rfl⟩)
            | (rw [hF, show F_actK g v w_ 5 = none from (if_neg (by decide)).trans ((if_neg (by decide)).trans ((if_neg (by decide)).trans ((if_pos (by decide)).trans (if_pos (Or.inr (Int32.not_le.mp h252))))))]; exact ⟨rfl, rfl⟩)
            | (rw [hF, show F_actK g v w_ 5 = some (gB g (a_b g v) 3, pB g (a_b g v) 3 (1 + F_low w_ 99)) from (if_neg (by decide)).trans ((if_neg (by decide)).trans ((if_neg (by decide)).trans ((if_pos (by decide)).trans (if_neg (fun z => z.elim h242 (fun z => absurd z (Int32.not_lt.mpr h252)))))))]; exact ⟨congrArg (fun z => some (vI z)) h271.1, h271.2⟩)
            | (rw [hF, show F_actK g v w_ 6 = none from (if_neg (by decide)).trans ((if_neg (by decide)).trans ((if_neg (by decide)).trans ((if_pos (by decide)).trans (if_pos (Or.inl h242)))))]; exact ⟨rfl, rfl⟩)
            | (rw [hF, show F_actK g v w_ 6 = none from (if_neg (by decide)).trans ((if_neg (by decide)).trans ((if_neg (by decide)).trans ((if_pos (by decide)).trans (if_pos (Or.inr (Int32.not_le.mp h252))))))]; exact ⟨rfl, rfl⟩)
            | (rw [hF, show F_actK g v w_ 6 = some (gB g (a_b g v) 3, pB g (a_b g v) 3 (1 + F_low w_ 99)) from (if_neg (by decide)).trans ((if_neg (by decide)).trans ((if_neg (by decide)).trans ((if_pos (by decide)).trans (if_neg (fun z => z.elim h242 (fun z => absurd z (Int32.not_lt.mpr h252)))))))]; exact ⟨congrArg (fun z => some (vI z)) h271.1, h271.2⟩)
      · subst e
        refine V_tabIn hC (187) 240 kL_act_53 (by rw [ek]; decide) (by rw [ek]; decide) (by rw [ek]; rfl) (by decide) ?_
        refine V_iload hC kL_act_240 rfl ?_
        refine V_if_eq hC 255 kL_act_242 (by decide) (fun h242 => ?_) (fun h242 => ?_)
        · refine V_bipush hC (-9) kL_act_255 (by decide) ?_
          refine V_goto hC 274 kL_act_257 (by decide) ?_
          refine V_iretiX hC rfl kL_act_274 ⟨(by show _ ≤ 5; omega), (by show _ ≤ 30; omega)⟩ ?_
          first
          | (rw [hF, show F_actK g v w_ 5 = none from (if_neg (by decide)).trans ((if_neg (by decide)).trans ((if_neg (by decide)).trans ((if_pos (by decide)).trans (if_pos (Or.inl h242)))))]; exact ⟨rfl, rfl⟩)
          | (rw [hF, show F_actK g v w_ 5 = none from (if_neg (by decide)).trans ((if_neg (by decide)).trans ((if_neg (by decide)).trans ((if_pos (by decide)).trans (if_pos (Or.inr (Int32.not_le.mp h252))))))]; exact ⟨rfl, rfl⟩)
          | (rw [hF, show F_actK g v w_ 5 = some (gB g (a_b g v) 3, pB g (a_b g v) 3 (1 + F_low w_ 99)) from (if_neg (by decide)).trans ((if_neg (by decide)).trans ((if_neg (by decide)).trans ((if_pos (by decide)).trans (if_neg (fun z => z.elim h242 (fun z => absurd z (Int32.not_lt.mpr h252)))))))]; exact ⟨congrArg (fun z => some (vI z)) h271.1, h271.2⟩)
          | (rw [hF, show F_actK g v w_ 6 = none from (if_neg (by decide)).trans ((if_neg (by decide)).trans ((if_neg (by decide)).trans ((if_pos (by decide)).trans (if_pos (Or.inl h242)))))]; exact ⟨rfl, rfl⟩)
          | (rw [hF, show F_actK g v w_ 6 = none from (if_neg (by decide)).trans ((if_neg (by decide)).trans ((if_neg (by decide)).trans ((if_pos (by decide)).trans (if_pos (Or.inr (Int32.not_le.mp h252))))))]; exact ⟨rfl, rfl⟩)
          | (rw [hF, show F_actK g v w_ 6 = some (gB g (a_b g v) 3, pB g (a_b g v) 3 (1 + F_low w_ 99)) from (if_neg (by decide)).trans ((if_neg (by decide)).trans ((if_neg (by decide)).trans ((if_pos (by decide)).trans (if_neg (fun z => z.elim h242 (fun z => absurd z (Int32.not_lt.mpr h252)))))))]; exact ⟨congrArg (fun z => some (vI z)) h271.1, h271.2⟩)
        · refine V_aload_n hC kL_act_245 rfl ?_
          refine V_iload hC kL_act_246 rfl ?_
          refine V_iconst hC (2) kL_act_248 (by decide) ?_
          refine V_cVf hC hX.1 (cf_boatOf hWr hl0 (a_b g v) (2) hR hI) (fun _ _ h => h.1) (kBo hI v h242) mkX5_boatOf lxL_22 kL_act_249 (Nat.le_of_ble_eq_true rfl) rfl rfl rfl (Nat.le_of_ble_eq_true rfl) ⟨(Nat.le_of_ble_eq_true rfl), (Nat.le_of_ble_eq_true rfl)⟩ ⟨rfl, rfl⟩ ⟨(by show _ ≤ 5; omega), (by show _ ≤ 30; omega)⟩ ?_
          refine V_if_ge hC 260 kL_act_252 (by decide) (fun h252 => ?_) (fun h252 => ?_)
          · refine V_aload_n hC kL_act_260 rfl ?_
            refine V_iload hC kL_act_261 rfl ?_
            refine V_iconst hC (1) kL_act_263 (by decide) ?_
            refine V_iload_n hC kL_act_264 rfl ?_
            refine V_bipush hC (99) kL_act_265 (by decide) ?_
            refine V_cS_fI hC (cp_low hWr _ 99 (by decide)) mkL_low lmL_28 kL_act_267 rfl rfl (Nat.le_of_ble_eq_true rfl) ⟨(Nat.le_of_ble_eq_true rfl), (Nat.le_of_ble_eq_true rfl)⟩ ⟨rfl, rfl⟩ ⟨(by show _ ≤ 5; omega), (by show _ ≤ 30; omega)⟩ ?_
            refine V_iadd hC kL_act_270 ?_
            refine V_cV0 hC hX.1 (cf_talk hWr hl0 (a_b g v) (1 + F_low w_ 99) hR hI hm) (fun _ _ h => h.1) ((kT hI v w_ h242 (Int32.not_lt.mpr h252)).1) mkX5_talk lxL_43 kL_act_271 (Nat.le_of_ble_eq_true rfl) rfl rfl rfl (Nat.le_of_ble_eq_true rfl) ⟨(Nat.le_of_ble_eq_true rfl), (Nat.le_of_ble_eq_true rfl)⟩ ⟨rfl, rfl⟩ ⟨(by show _ ≤ 5; omega), (by show _ ≤ 30; omega)⟩ (fun x271 g271 h271 => ?_)
            refine V_iretiX hC rfl kL_act_274 ⟨(by show _ ≤ 5; omega), (by show _ ≤ 30; omega)⟩ ?_
            first
            | (rw [hF, show F_actK g v w_ 5 = none from (if_neg (by decide)).trans ((if_neg (by decide)).trans ((if_neg (by decide)).trans ((if_pos (by decide)).trans (if_pos (Or.inl h242)))))]; exact ⟨rfl, rfl⟩)
            | (rw [hF, show F_actK g v w_ 5 = none from (if_neg (by decide)).trans ((if_neg (by decide)).trans ((if_neg (by decide)).trans ((if_pos (by decide)).trans (if_pos (Or.inr (Int32.not_le.mp h252))))))]; exact ⟨rfl, rfl⟩)
            | (rw [hF, show F_actK g v w_ 5 = some (gB g (a_b g v) 3, pB g (a_b g v) 3 (1 + F_low w_ 99)) from (if_neg (by decide)).trans ((if_neg (by decide)).trans ((if_neg (by decide)).trans ((if_pos (by decide)).trans (if_neg (fun z => z.elim h242 (fun z => absurd z (Int32.not_lt.mpr h252)))))))]; exact ⟨congrArg (fun z => some (vI z)) h271.1, h271.2⟩)
            | (rw [hF, show F_actK g v w_ 6 = none from (if_neg (by decide)).trans ((if_neg (by decide)).trans ((if_neg (by decide)).trans ((if_pos (by decide)).trans (if_pos (Or.inl h242)))))]; exact ⟨rfl, rfl⟩)
            | (rw [hF, show F_actK g v w_ 6 = none from (if_neg (by decide)).trans ((if_neg (by decide)).trans ((if_neg (by decide)).trans ((if_pos (by decide)).trans (if_pos (Or.inr (Int32.not_le.mp h252))))))]; exact ⟨rfl, rfl⟩)
            | (rw [hF, show F_actK g v w_ 6 = some (gB g (a_b g v) 3, pB g (a_b g v) 3 (1 + F_low w_ 99)) from (if_neg (by decide)).trans ((if_neg (by decide)).trans ((if_neg (by decide)).trans ((if_pos (by decide)).trans (if_neg (fun z => z.elim h242 (fun z => absurd z (Int32.not_lt.mpr h252)))))))]; exact ⟨congrArg (fun z => some (vI z)) h271.1, h271.2⟩)
          · refine V_bipush hC (-9) kL_act_255 (by decide) ?_
            refine V_goto hC 274 kL_act_257 (by decide) ?_
            refine V_iretiX hC rfl kL_act_274 ⟨(by show _ ≤ 5; omega), (by show _ ≤ 30; omega)⟩ ?_
            first
            | (rw [hF, show F_actK g v w_ 5 = none from (if_neg (by decide)).trans ((if_neg (by decide)).trans ((if_neg (by decide)).trans ((if_pos (by decide)).trans (if_pos (Or.inl h242)))))]; exact ⟨rfl, rfl⟩)
            | (rw [hF, show F_actK g v w_ 5 = none from (if_neg (by decide)).trans ((if_neg (by decide)).trans ((if_neg (by decide)).trans ((if_pos (by decide)).trans (if_pos (Or.inr (Int32.not_le.mp h252))))))]; exact ⟨rfl, rfl⟩)
            | (rw [hF, show F_actK g v w_ 5 = some (gB g (a_b g v) 3, pB g (a_b g v) 3 (1 + F_low w_ 99)) from (if_neg (by decide)).trans ((if_neg (by decide)).trans ((if_neg (by decide)).trans ((if_pos (by decide)).trans (if_neg (fun z => z.elim h242 (fun z => absurd z (Int32.not_lt.mpr h252)))))))]; exact ⟨congrArg (fun z => some (vI z)) h271.1, h271.2⟩)
            | (rw [hF, show F_actK g v w_ 6 = none from (if_neg (by decide)).trans ((if_neg (by decide)).trans ((if_neg (by decide)).trans ((if_pos (by decide)).trans (if_pos (Or.inl h242)))))]; exact ⟨rfl, rfl⟩)
            | (rw [hF, show F_actK g v w_ 6 = none from (if_neg (by decide)).trans ((if_neg (by decide)).trans ((if_neg (by decide)).trans ((if_pos (by decide)).trans (if_pos (Or.inr (Int32.not_le.mp h252))))))]; exact ⟨rfl, rfl⟩)
            | (rw [hF, show F_actK g v w_ 6 = some (gB g (a_b g v) 3, pB g (a_b g v) 3 (1 + F_low w_ 99)) from (if_neg (by decide)).trans ((if_neg (by decide)).trans ((if_neg (by decide)).trans ((if_pos (by decide)).trans (if_neg (fun z => z.elim h242 (fun z => absurd z (Int32.not_lt.mpr h252)))))))]; exact ⟨congrArg (fun z => some (vI z)) h271.1, h271.2⟩)
      · subst e
        refine V_tabIn hC (222) 275 kL_act_53 (by rw [ek]; decide) (by rw [ek]; decide) (by rw [ek]; rfl) (by decide) ?_
        refine V_iload_n hC kL_act_275 rfl ?_
        refine V_if_ne hC 284 kL_act_276 (by decide) (fun h276 => ?_) (fun h276 => ?_)
        · refine V_aload_n hC kL_act_284 rfl ?_
          refine V_iload hC kL_act_285 rfl ?_
          refine V_bipush hC (10) kL_act_287 (by decide) ?_
          refine V_iload_n hC kL_act_289 rfl ?_
          refine V_bipush hC (90) kL_act_290 (by decide) ?_
          refine V_cS_fI hC (cp_low hWr _ 90 (by decide)) mkL_low lmL_28 kL_act_292 rfl rfl (Nat.le_of_ble_eq_true rfl) ⟨(Nat.le_of_ble_eq_true rfl), (Nat.le_of_ble_eq_true rfl)⟩ ⟨rfl, rfl⟩ ⟨(by show _ ≤ 5; omega), (by show _ ≤ 30; omega)⟩ ?_
          refine V_iadd hC kL_act_295 ?_
          refine V_cV0 hC hX.1 (cf_dim hWr hl0 (a_l g v) (10 + F_low w_ 90) hR hI hm) (fun _ _ h => h.1) ((kD hI v w_ h276).1) mkX5_dim lxL_46 kL_act_296 (Nat.le_of_ble_eq_true rfl) rfl rfl rfl (Nat.le_of_ble_eq_true rfl) ⟨(Nat.le_of_ble_eq_true rfl), (Nat.le_of_ble_eq_true rfl)⟩ ⟨rfl, rfl⟩ ⟨(by show _ ≤ 5; omega), (by show _ ≤ 30; omega)⟩ (fun x296 g296 h296 => ?_)
          refine V_iretiX hC rfl kL_act_299 ⟨(by show _ ≤ 5; omega), (by show _ ≤ 30; omega)⟩ ?_
          first
          | (rw [hF, show F_actK g v w_ 7 = none from (if_neg (by decide)).trans ((if_neg (by decide)).trans ((if_neg (by decide)).trans ((if_neg (by decide)).trans ((if_pos (by decide)).trans (if_pos h276)))))]; exact ⟨rfl, rfl⟩)
          | (rw [hF, show F_actK g v w_ 7 = some (gL g (a_l g v) 1, F_dim g (a_l g v) (10 + F_low w_ 90)) from (if_neg (by decide)).trans ((if_neg (by decide)).trans ((if_neg (by decide)).trans ((if_neg (by decide)).trans ((if_pos (by decide)).trans (if_neg h276)))))]; exact ⟨congrArg (fun z => some (vI z)) h296.1, h296.2⟩)
        · refine V_bipush hC (-9) kL_act_279 (by decide) ?_
          refine V_goto hC 299 kL_act_281 (by decide) ?_
          refine V_iretiX hC rfl kL_act_299 ⟨(by show _ ≤ 5; omega), (by show _ ≤ 30; omega)⟩ ?_
          first
          | (rw [hF, show F_actK g v w_ 7 = none from (if_neg (by decide)).trans ((if_neg (by decide)).trans ((if_neg (by decide)).trans ((if_neg (by decide)).trans ((if_pos (by decide)).trans (if_pos h276)))))]; exact ⟨rfl, rfl⟩)
          | (rw [hF, show F_actK g v w_ 7 = some (gL g (a_l g v) 1, F_dim g (a_l g v) (10 + F_low w_ 90)) from (if_neg (by decide)).trans ((if_neg (by decide)).trans ((if_neg (by decide)).trans ((if_neg (by decide)).trans ((if_pos (by decide)).trans (if_neg h276)))))]; exact ⟨congrArg (fun z => some (vI z)) h296.1, h296.2⟩)
      · subst e
        refine V_tabIn hC (247) 300 kL_act_53 (by rw [ek]; decide) (by rw [ek]; decide) (by rw [ek]; rfl) (by decide) ?_
        refine V_aload_n hC kL_act_300 rfl ?_
        refine V_iload_n hC kL_act_301 rfl ?_
        refine V_iconst hC (4) kL_act_302 (by decide) ?_
        refine V_cS_fI hC (cp_low hWr _ 4 (by decide)) mkL_low lmL_28 kL_act_303 rfl rfl (Nat.le_of_ble_eq_true rfl) ⟨(Nat.le_of_ble_eq_true rfl), (Nat.le_of_ble_eq_true rfl)⟩ ⟨rfl, rfl⟩ ⟨(by show _ ≤ 5; omega), (by show _ ≤ 30; omega)⟩ ?_
        refine V_iconst hC (1) kL_act_306 (by decide) ?_
        refine V_iload_n hC kL_act_307 rfl ?_
        refine V_iconst hC (2) kL_act_308 (by decide) ?_
        refine V_ishr hC kL_act_309 ?_
        refine V_bipush hC (10) kL_act_310 (by decide) ?_
        refine V_cS_fI hC (cp_low hWr _ 10 (by decide)) mkL_low lmL_28 kL_act_312 rfl rfl (Nat.le_of_ble_eq_true rfl) ⟨(Nat.le_of_ble_eq_true rfl), (Nat.le_of_ble_eq_true rfl)⟩ ⟨rfl, rfl⟩ ⟨(by show _ ≤ 5; omega), (by show _ ≤ 30; omega)⟩ ?_
        refine V_iadd hC kL_act_315 ?_
        refine V_cV0 hC hX.1 (cf_set hWr hl0 (F_low w_ 4) (aSe w_) hR hI hm) (fun _ _ h => h.1) ((kE w_).1) mkX5_set lxL_49 kL_act_316 (Nat.le_of_ble_eq_true rfl) rfl rfl rfl (Nat.le_of_ble_eq_true rfl) ⟨(Nat.le_of_ble_eq_true rfl), (Nat.le_of_ble_eq_true rfl)⟩ ⟨rfl, rfl⟩ ⟨(by show _ ≤ 5; omega), (by show _ ≤ 30; omega)⟩ (fun x316 g316 h316 => ?_)
        refine V_iretiX hC rfl kL_act_319 ⟨(by show _ ≤ 5; omega), (by show _ ≤ 30; omega)⟩ ?_
        (rw [hF, show F_actK g v w_ 8 = some (g (tn (F_low w_ 4)), upd g (tn (F_low w_ 4)) (aSe w_)) from (if_neg (by decide)).trans ((if_neg (by decide)).trans ((if_neg (by decide)).trans ((if_neg (by decide)).trans ((if_neg (by decide)).trans ((if_pos (by decide)).trans (rfl))))))]; exact ⟨congrArg (fun z => some (vI z)) h316.1, h316.2⟩)
      · subst e
        refine V_tabIn hC (267) 320 kL_act_53 (by rw [ek]; decide) (by rw [ek]; decide) (by rw [ek]; rfl) (by decide) ?_
        refine V_aload_n hC kL_act_320 rfl ?_
        refine V_iconst hC (2) kL_act_321 (by decide) ?_
        refine V_iconst hC (1) kL_act_322 (by decide) ?_
        refine V_iload_n hC kL_act_323 rfl ?_
        refine V_sipush hC (150) kL_act_324 (by decide) ?_
        refine V_cS_fI hC (cp_low hWr _ 150 (by decide)) mkL_low lmL_28 kL_act_327 rfl rfl (Nat.le_of_ble_eq_true rfl) ⟨(Nat.le_of_ble_eq_true rfl), (Nat.le_of_ble_eq_true rfl)⟩ ⟨rfl, rfl⟩ ⟨(by show _ ≤ 5; omega), (by show _ ≤ 30; omega)⟩ ?_
        refine V_iadd hC kL_act_330 ?_
        refine V_cV0 hC hX.1 (cf_set hWr hl0 2 (1 + F_low w_ 150) hR hI hm) (fun _ _ h => h.1) ((kE2 w_).1) mkX5_set lxL_49 kL_act_331 (Nat.le_of_ble_eq_true rfl) rfl rfl rfl (Nat.le_of_ble_eq_true rfl) ⟨(Nat.le_of_ble_eq_true rfl), (Nat.le_of_ble_eq_true rfl)⟩ ⟨rfl, rfl⟩ ⟨(by show _ ≤ 5; omega), (by show _ ≤ 30; omega)⟩ (fun x331 g331 h331 => ?_)
        refine V_iretiX hC rfl kL_act_334 ⟨(by show _ ≤ 5; omega), (by show _ ≤ 30; omega)⟩ ?_
        (rw [hF, show F_actK g v w_ 9 = some (g (tn 2), upd g (tn 2) (1 + F_low w_ 150)) from (if_neg (by decide)).trans ((if_neg (by decide)).trans ((if_neg (by decide)).trans ((if_neg (by decide)).trans ((if_neg (by decide)).trans ((if_neg (by decide)).trans ((if_pos (by decide)).trans (rfl)))))))]; exact ⟨congrArg (fun z => some (vI z)) h331.1, h331.2⟩)
      · refine V_tabOut hC 335 kL_act_53 (Or.inr (by rw [ek, nI_toInt (by omega)]; omega)) (by decide) ?_
        refine V_aload_n hC kL_act_335 rfl ?_
        refine V_iconst hC (1) kL_act_336 (by decide) ?_
        refine V_iload_n hC kL_act_337 rfl ?_
        refine V_join 353 (tk w_) ?_ (fun j353 => ?_)
        · refine V_cS_fI hC (cp_low hWr _ (tk w_) (tk_ne w_)) mkL_low lmL_28 kL_act_353 rfl rfl (Nat.le_of_ble_eq_true rfl) ⟨(Nat.le_of_ble_eq_true rfl), (Nat.le_of_ble_eq_true rfl)⟩ ⟨rfl, rfl⟩ ⟨(by show _ ≤ 5; omega), (by show _ ≤ 30; omega)⟩ ?_
          refine V_iadd hC kL_act_356 ?_
          refine V_cV0 hC hX.1 (cf_ticks hWr hl0 (aT w_) hR hI hm) (fun _ _ h => h.1) (kTi w_) mkX5_ticks lxL_52 kL_act_357 (Nat.le_of_ble_eq_true rfl) rfl rfl rfl (Nat.le_of_ble_eq_true rfl) ⟨(Nat.le_of_ble_eq_true rfl), (Nat.le_of_ble_eq_true rfl)⟩ ⟨rfl, rfl⟩ ⟨(by show _ ≤ 5; omega), (by show _ ≤ 30; omega)⟩ (fun x357 g357 h357 => ?_)
          refine V_iretiX hC rfl kL_act_360 ⟨(by show _ ≤ 5; omega), (by show _ ≤ 30; omega)⟩ ?_
          (rw [hF, show F_actK g v w_ k = some (F_ticks g (tn (aT w_)) 7 - g 7, F_ticks g (tn (aT w_))) from (if_neg (by omega)).trans ((if_neg (by omega)).trans ((if_neg (by omega)).trans ((if_neg (by omega)).trans ((if_neg (by omega)).trans ((if_neg (by omega)).trans (if_neg (by omega)))))))]; exact ⟨congrArg (fun z => some (vI z)) h357.1, h357.2⟩)
        · refine V_iload_n hC kL_act_338 rfl ?_
          refine V_bipush hC (20) kL_act_339 (by decide) ?_
          refine V_ishr hC kL_act_341 ?_
          refine V_iconst hC (1) kL_act_342 (by decide) ?_
          refine V_iand hC kL_act_343 ?_
          refine V_if_ne hC 351 kL_act_344 (by decide) (fun h344 => ?_) (fun h344 => ?_)
          · refine V_bipush hC (60) kL_act_351 (by decide) ?_
            exact j353 _ ((if_neg h344).symm)
          · refine V_iconst hC (4) kL_act_347 (by decide) ?_
            refine V_goto hC 353 kL_act_348 (by decide) ?_
            exact j353 _ ((if_pos h344).symm)
    · refine V_iload hC kL_act_30 rfl ?_
      refine V_if_ne hC 39 kL_act_32 (by decide) (fun h32 => ?_) (fun h32 => ?_)
      · refine V_iload_n hC kL_act_39 rfl ?_
        refine V_iconst hC (4) kL_act_40 (by decide) ?_
        refine V_ishr hC kL_act_41 ?_
        refine V_iload hC kL_act_42 rfl ?_
        refine V_cS_fI hC (cp_low hWr _ (g 5) h32) mkL_low lmL_28 kL_act_44 rfl rfl (Nat.le_of_ble_eq_true rfl) ⟨(Nat.le_of_ble_eq_true rfl), (Nat.le_of_ble_eq_true rfl)⟩ ⟨rfl, rfl⟩ ⟨(by show _ ≤ 5; omega), (by show _ ≤ 30; omega)⟩ ?_
        exact j47 _ ((if_neg h32).symm)
      · refine V_iconst hC (0) kL_act_35 (by decide) ?_
        refine V_goto hC 47 kL_act_36 (by decide) ?_
        exact j47 _ ((if_pos h32).symm)
  · refine V_iload_n hC kL_act_13 rfl ?_
    refine V_if_ne hC 21 kL_act_14 (by decide) (fun h14 => ?_) (fun h14 => ?_)
    · refine V_iload_n hC kL_act_21 rfl ?_
      refine V_iconst hC (4) kL_act_22 (by decide) ?_
      refine V_ishr hC kL_act_23 ?_
      refine V_iload_n hC kL_act_24 rfl ?_
      refine V_cS_fI hC (cp_low hWr _ (g 4) h14) mkL_low lmL_28 kL_act_25 rfl rfl (Nat.le_of_ble_eq_true rfl) ⟨(Nat.le_of_ble_eq_true rfl), (Nat.le_of_ble_eq_true rfl)⟩ ⟨rfl, rfl⟩ ⟨(by show _ ≤ 5; omega), (by show _ ≤ 30; omega)⟩ ?_
      exact j28 _ ((if_neg h14).symm)
    · refine V_iconst hC (0) kL_act_17 (by decide) ?_
      refine V_goto hC 28 kL_act_18 (by decide) ?_
      exact j28 _ ((if_pos h14).symm)
