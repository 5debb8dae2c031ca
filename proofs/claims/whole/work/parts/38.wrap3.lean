-- HOW ct_in fI
-- HOW ct_fails fI
-- HOW ct_of fI
-- HOW ct_ofBoat fI
-- HOW ct_layBoat fV
-- HOW ct_isLight fI
-- HOW ct_isBoat fI
-- HOW ct_isPlace fI
-- HOW ct_bright fI
-- HOW ct_worth fI
-- HOW ct_serves fI
-- HOW ct_best fI
-- HOW ct_sails fV
-- HOW ct_drops fV
-- HOW ct_wished fI
-- HOW ct_hands fV
-- HOW ct_wishes fV
-- HOW ct_finds fV
-- HOW ct_goesOn fV
-- HOW ct_goesTick fV
-- HOW ct_goesBy fI
-- HOW ct_putAside fV
-- HOW ct_takeBack fV
-- HOW ct_isLamp fI
-- HOW ct_addsLight fI
-- HOW ct_actsLight fI
-- HOW ct_addsBoat fI
-- HOW ct_actsBoat fI
-- HOW ct_actsSteer fI
-- HOW ct_canTalk fI
-- HOW ct_actsTalk fI
-- HOW ct_actsLean fI
-- HOW ct_actsDim fI
-- HOW ct_mostOf fI
-- HOW ct_isSetting fI
-- HOW ct_actsSet fI
-- HOW ct_actsTicks fI
-- HOW ct_boatsThat fI
-- HOW ct_servedBy fI
-- HOW ct_begins fV
-- HOW ct_tellsAbout fI
-- HOW ct_about fM
-- HOW ct_lightOf fM
-- HOW ct_boatOf fM
-- HOW ct_brightness fM
-- HOW ct_bestAt fM
-- HOW ct_setting fM
-- HOW ct_saves fV
-- HOW ct_light fM
-- HOW ct_boat fM
-- HOW ct_steer fM
-- HOW ct_talk fM
-- HOW ct_lean fM
-- HOW ct_dim fM
-- HOW ct_set fM
-- HOW ct_ticks fM
-- HOW ct_undo fM
-- HOW ct_save fM
-- HOW ct_restore fM
-- HOW ct_bringsBy fI
-- HOW ct_ifMargin fM
-- HOW ct_held fI
-- HOW ct_room fI
-- HOW ct_dark fI
-- HOW ct_turns fV
-- HOW ct_simulate fM
-- HOW ct_border fM
-- HOW ct_handedIn fM
-- HOW ct_bestMargin fM
-- HOW ct_thrown fI
-- HOW ct_sign fI
-- HOW ct_number fI
-- HOW ct_carriesLight fI
-- HOW ct_carries fI
-- HOW ct_isCommand fI
-- HOW ct_append fM
-- HOW ct_clearText fM
-- HOW ct_readsAll fV
-- HOW ct_errorPosition fI
-- HOW ct_load rI
-- HOW ct_pair fI
-- HOW ct_laysFigures fV
-- HOW ct_succeeds fI
-- HOW ct_runScript rI
-- HOW cl_isPlace fI
-- HOW cl_isSpeed fI
-- HOW cl_isStrength fI
-- HOW cl_isTickCount fI
-- HOW cl_isSetting fI
-- HOW cl_isSlot fI
-- HOW cl_isSettingValue fI
-- HOW cl_shown fI
-- HOW cl_withoutGroups fL
-- HOW cl_lbegin fV
-- HOW cl_lcopy fV
-- HOW cl_bcopy fV
-- HOW cl_lnum fI
-- HOW cl_bnum fI
-- HOW cl_bright fI
-- HOW cl_worth fI
-- HOW cl_bitCount fI
-- HOW cl_servedCount fI
-- HOW cl_takesHandedOn fI
-- HOW cl_takesOthers fI
-- HOW cl_bbegin fV
-- HOW cl_move fV
-- HOW cl_wishFor fV
-- HOW cl_lightR fR
-- HOW cl_lightN fR
-- HOW cl_boatR fR
-- HOW cl_boatN fR
-- HOW cl_setR fI
-- HOW cl_lightAt fR
-- HOW cl_lightAtNo fR
-- HOW cl_boatAt fR
-- HOW cl_boatAtNo fR
-- HOW cl_settingOf fI
-- HOW cl_servedBoats fI
-- HOW cl_talkingBoats fI
-- HOW cl_numberOf fI
-- HOW cl_brightest fI
-- HOW cl_isDark fI
-- HOW cl_freePlaces fI
-- HOW cl_isServing fI
-- HOW cl_isServingAtLeast fI
-- HOW cl_isBoatAt fI
-- HOW cl_lightFault fI
-- HOW cl_boatFault fI
-- HOW cl_steerFault fI
-- HOW cl_dimFault fI
-- HOW cl_leanFault fI
-- HOW cl_talkFault fI
-- HOW cl_putSpeed rI
-- HOW cl_putTalk rI
-- HOW cl_putLeaning rI
-- HOW cl_putStrength rI
-- HOW cl_putSetting rI
-- HOW cl_addLight rI
-- HOW cl_addBoat rI
-- HOW cl_tryLight rI
-- HOW cl_tryBoat rI
-- HOW cl_trySteer rI
-- HOW cl_tryTalk rI
-- HOW cl_tryLean rI
-- HOW cl_tryDim rI
-- HOW cl_trySet rI
-- HOW cl_serve rV
-- HOW cl_lose rV
-- HOW cl_bestWish fI
-- HOW cl_seekKeeper rV
-- HOW cl_ask rV
-- HOW cl_setW fI
-- HOW cl_sail rV
-- HOW cl_pass rV
-- HOW cl_reset rV
-- HOW cl_copyFrom rV
-- HOW cl_stateAt fR
-- HOW cl_slotAt fR
-- HOW cl_hasStates fI
-- HOW cl_mreset rV
-- HOW cl_remember rV
-- HOW cl_takeBack rI
-- HOW cl_isKept fI
-- HOW cl_keep rV
-- HOW cl_bring rV
-- HOW cl_isFull fI
-- HOW cl_add fI
-- HOW cl_empty fI
-- HOW cl_hasMore fI
-- HOW cl_signAt fI
-- HOW cl_number fI
-- HOW cl_formOf fR
-- HOW cl_readNumber fI
-- HOW cl_formY fR
-- HOW cl_formN fR
-- HOW cl_readHead fI
-- HOW cl_readCommand rI
-- HOW cl_errorPlace rI
-- HOW cl_gained fI
-- HOW cl_tryMargin rV
-- HOW cl_until rI
-- HOW cl_dark fI
-- HOW cl_room fI
-- HOW cl_takeTurn rV
-- HOW cl_runCommand rI
-- HOW cl_obey rI
-- HOW cl_throwFault xV
-- HOW cf_about xI
-- HOW cf_lightOf xI
-- HOW cf_boatOf xI
-- HOW cf_brightness xI
-- HOW cf_bestAt xI
-- HOW cf_setting xI
-- HOW cf_light xI
-- HOW cf_boat xI
-- HOW cf_steer xI
-- HOW cf_talk xI
-- HOW cf_lean xI
-- HOW cf_dim xI
-- HOW cf_set xI
-- HOW cf_ticks xI
-- HOW cf_undo xI
-- HOW cf_save xI
-- HOW cf_restore xI
-- HOW cf_append xI
-- HOW cf_clearText fI
-- HOW cf_ifMargin xI
-- HOW cf_handedIn xI
-- HOW cf_errorPosition rI
-- HOW cf_simulate xI
-- HOW cf_border xI
-- HOW cf_bestMargin xI
-- HOW cf_runScript xI
-- HOW cf_load xI
/-! the law's wrappers of load and runScript -/
def PV (o : Nat) (w : Wd) (K : Prop) (f : Int32 → Sg → Prop) (P : Sg → Prop) : Option VV → Wd → Sg → Prop := fun r w' g2 => (r = some (vI 0) ∧ ∃ y : Int32, w' = setL w o 0 y.toInt64 ∧ f y g2) ∨ (K ∧ r = some (vI 1) ∧ w' = w ∧ P g2)
def mtL_runScript : Mt := (yL_runScript, cL_runScript, 6, (some .int), 8, 245, 1, 6)
theorem kL_runScript_0 : Dk mtL_runScript 0 (.aload 4) 2 2 := ⟨by decide +kernel, rfl⟩
theorem kL_runScript_2 : Dk mtL_runScript 2 (.iconst 0) 1 3 := ⟨by decide +kernel, rfl⟩
theorem kL_runScript_3 : Dk mtL_runScript 3 (.aload_n 0) 1 4 := ⟨by decide +kernel, rfl⟩
theorem kL_runScript_4 : Dk mtL_runScript 4 (.iload_n 1) 1 5 := ⟨by decide +kernel, rfl⟩
theorem kL_runScript_5 : Dk mtL_runScript 5 (.lload_n 2) 1 6 := ⟨by decide +kernel, rfl⟩
theorem kL_runScript_6 : Dk mtL_runScript 6 (.invokevirtual 83) 3 9 := ⟨by decide +kernel, rfl⟩
theorem kL_runScript_9 : Dk mtL_runScript 9 (.i2l) 1 10 := ⟨by decide +kernel, rfl⟩
theorem kL_runScript_10 : Dk mtL_runScript 10 (.lastore) 1 11 := ⟨by decide +kernel, rfl⟩
theorem kL_runScript_11 : Dk mtL_runScript 11 (.goto 7) 3 14 := ⟨by decide +kernel, rfl⟩
theorem kL_runScript_14 : Dk mtL_runScript 14 (.astore 5) 2 16 := ⟨by decide +kernel, rfl⟩
theorem kL_runScript_16 : Dk mtL_runScript 16 (.iconst 1) 1 17 := ⟨by decide +kernel, rfl⟩
theorem kL_runScript_17 : Dk mtL_runScript 17 (.ireturn) 1 18 := ⟨by decide +kernel, rfl⟩
theorem kL_runScript_18 : Dk mtL_runScript 18 (.iconst 0) 1 19 := ⟨by decide +kernel, rfl⟩
theorem kL_runScript_19 : Dk mtL_runScript 19 (.ireturn) 1 20 := ⟨by decide +kernel, rfl⟩
theorem mkX5_runScript : MkV mtX5_runScript 2 := ⟨List.mem_of_getElem? (i := 925) (by decide +kernel), by decide +kernel, by decide +kernel, by decide +kernel, ⟨by decide +kernel, by decide +kernel, by decide +kernel⟩⟩
theorem lxL_83 : Cond.methodLink RL 83 (mY mtX5_runScript) ∈ lw_tbl := by decide +kernel
set_option maxHeartbeats 4000000 in
set_option maxRecDepth 100000 in
theorem lw_runScript {l : Launch} {w : Wd} {sg : Sg} (hWr : Wr w) (hl0 : l.stackTraces = false) (n : Int32) (u : Int64) (old : Gs) {o : Nat} {x : Nat} {g : Gs} (hR : Rel sg (x + 4) g) (hI : Inv g) (hT : Bt sg (x + 22)) : MT l mtL_runScript [(0, 11, 14, 13)] w [vR (some (5, 0, x)), vI n, vL u, vR (some (13, 1, o))] sg (PV o w (¬ cScript n u) (fun r g2 => cScript n u ∧ (∃ S, u = lN S ∧ S < 10 ^ 18 ∧ r = R_runScript g old S (tn n)) ∧ Fr (x + 22) sg g2 ∧ Bt g2 (x + 22)) (fun g2 => g2 = sg)) := by
  refine MT_of [some (vR (some (5, 0, x))), some (vI n), some (vL u), none, some (vR (some (13, 1, o))), none] rfl (Nat.le_of_ble_eq_true rfl) (by decide +kernel) ?_
  intro p_ e_ s_ m_ args_ below_ meth_ c_ hC hX hO
  refine V_aload hC kL_runScript_0 rfl ?_
  refine V_iconst hC (0) kL_runScript_2 (by decide) ?_
  refine V_aload_n hC kL_runScript_3 rfl ?_
  refine V_iload_n hC kL_runScript_4 rfl ?_
  refine V_lload_n hC kL_runScript_5 rfl ?_
  refine V_invVX hC hX.1 (cf_runScript hWr hl0 n u old hR hI hT) mkX5_runScript lxL_83 kL_runScript_6 (Nat.le_of_ble_eq_true rfl) rfl rfl rfl (Nat.le_of_ble_eq_true rfl) ⟨(Nat.le_of_ble_eq_true rfl), (Nat.le_of_ble_eq_true rfl)⟩ ⟨(Nat.le_of_ble_eq_true rfl), (Nat.le_of_ble_eq_true rfl)⟩ (fun E g9 hp => ?_) (fun r g9 hq => ?_)
  · obtain ⟨hK, hE, hg⟩ := hp
    · obtain rfl : E = "java/lang/IllegalArgumentException" := by exact hE
      refine VX_cat hC hX [] [] (0, 11, 14, 13) rfl (by simp [xCl]) (fun _ h => absurd h List.not_mem_nil) ⟨by decide, by decide⟩ (by decide) lcl13 rfl kL_runScript_14 (Nat.le_of_ble_eq_true rfl) ?_
      refine V_iconst hC 1 kL_runScript_16 (by decide) ?_
      refine V_iretL hC rfl rfl kL_runScript_17 ⟨(Nat.le_of_ble_eq_true rfl), (Nat.le_of_ble_eq_true rfl)⟩ ?_
      exact Or.inr ⟨hK, rfl, rfl, hg⟩
  · obtain ⟨y, rfl, hf⟩ := hq
    refine V_i2l hC kL_runScript_9 ?_
    refine V_last hC 0 rfl kL_runScript_10 (vp_lit rfl) ?_
    refine V_goto (Cx_L hC) 18 kL_runScript_11 (by decide) ?_
    refine V_iconst (Cx_L hC) 0 kL_runScript_18 (by decide) ?_
    refine V_iretL (Cx_L hC) rfl rfl kL_runScript_19 ⟨(Nat.le_of_ble_eq_true rfl), (Nat.le_of_ble_eq_true rfl)⟩ ?_
    exact Or.inl ⟨rfl, y, rfl, hf⟩
def mtL_load : Mt := (yL_load, cL_load, 3, (some .int), 8, 244, 1, 6)
theorem kL_load_0 : Dk mtL_load 0 (.aload_n 1) 1 1 := ⟨by decide +kernel, rfl⟩
theorem kL_load_1 : Dk mtL_load 1 (.iconst 0) 1 2 := ⟨by decide +kernel, rfl⟩
theorem kL_load_2 : Dk mtL_load 2 (.aload_n 0) 1 3 := ⟨by decide +kernel, rfl⟩
theorem kL_load_3 : Dk mtL_load 3 (.invokevirtual 17) 3 6 := ⟨by decide +kernel, rfl⟩
theorem kL_load_6 : Dk mtL_load 6 (.i2l) 1 7 := ⟨by decide +kernel, rfl⟩
theorem kL_load_7 : Dk mtL_load 7 (.lastore) 1 8 := ⟨by decide +kernel, rfl⟩
theorem kL_load_8 : Dk mtL_load 8 (.goto 6) 3 11 := ⟨by decide +kernel, rfl⟩
theorem kL_load_11 : Dk mtL_load 11 (.astore_n 2) 1 12 := ⟨by decide +kernel, rfl⟩
theorem kL_load_12 : Dk mtL_load 12 (.iconst 1) 1 13 := ⟨by decide +kernel, rfl⟩
theorem kL_load_13 : Dk mtL_load 13 (.ireturn) 1 14 := ⟨by decide +kernel, rfl⟩
theorem kL_load_14 : Dk mtL_load 14 (.iconst 0) 1 15 := ⟨by decide +kernel, rfl⟩
theorem kL_load_15 : Dk mtL_load 15 (.ireturn) 1 16 := ⟨by decide +kernel, rfl⟩
theorem mkX5_load : MkV mtX5_load 0 := ⟨List.mem_of_getElem? (i := 492) (by decide +kernel), by decide +kernel, by decide +kernel, by decide +kernel, ⟨by decide +kernel, by decide +kernel, by decide +kernel⟩⟩
theorem lxL_17 : Cond.methodLink RL 17 (mY mtX5_load) ∈ lw_tbl := by decide +kernel
set_option maxHeartbeats 4000000 in
set_option maxRecDepth 100000 in
theorem lw_load {l : Launch} {w : Wd} {sg : Sg} (hWr : Wr w) (hl0 : l.stackTraces = false) {o x : Nat} {g gg g0 : Gs} (hR : Rel sg (x + 4) g) (hI : Inv g) {Nm : Nat} {G : Nat → Gs} {K : Nat → Bool} {Sm : Nat → Gs} (hm : MRel sg (x + 40) Nm G K Sm) {n : Nat} {tx : Gs} (hT : TR sg (x + 1) tx n) {c c1 : Gs} (hc8 : c 8 = nI n) (hc1 : c1 8 = nI n) (hI0 : Inv g0) : MT l mtL_load [(0, 8, 11, 15)] w [vR (some (5, 0, x)), vR (some (13, 1, o))] sg (PV o w ((F_reads tx c g0 0).1 10 = 0) (fun r g2 => ¬ (F_reads tx c g0 0).1 10 = 0 ∧ r = (F_reads tx c1 (F_begins gg) 1).1 12 ∧ F3 x sg g2 ∧ Rel g2 (x + 4) (F_reads tx c1 (F_begins gg) 1).2 ∧ MRel g2 (x + 40) 0 G (fun _ => false) Sm) (F4 x sg)) := by
  refine MT_of [some (vR (some (5, 0, x))), some (vR (some (13, 1, o))), none] rfl (Nat.le_of_ble_eq_true rfl) (by decide +kernel) ?_
  intro p_ e_ s_ m_ args_ below_ meth_ c_ hC hX hO
  refine V_aload_n hC kL_load_0 rfl ?_
  refine V_iconst hC (0) kL_load_1 (by decide) ?_
  refine V_aload_n hC kL_load_2 rfl ?_
  refine V_invVX hC hX.1 (cf_load hWr hl0 (gg := gg) hR hI hm hT hc8 hc1 hI0) mkX5_load lxL_17 kL_load_3 (Nat.le_of_ble_eq_true rfl) rfl rfl rfl (Nat.le_of_ble_eq_true rfl) ⟨(Nat.le_of_ble_eq_true rfl), (Nat.le_of_ble_eq_true rfl)⟩ ⟨(Nat.le_of_ble_eq_true rfl), (Nat.le_of_ble_eq_true rfl)⟩ (fun E g9 hp => ?_) (fun r g9 hq => ?_)
  · obtain ⟨hK, hE, hg⟩ := hp
    · obtain rfl : E = "java/lang/IllegalStateException" := by exact hE
      refine VX_catn hC hX [] [] (0, 8, 11, 15) rfl (by simp [xCl]) (fun _ h => absurd h List.not_mem_nil) ⟨by decide, by decide⟩ (by decide) lcl15 rfl kL_load_11 (Nat.le_of_ble_eq_true rfl) ?_
      refine V_iconst hC 1 kL_load_12 (by decide) ?_
      refine V_iretL hC rfl rfl kL_load_13 ⟨(Nat.le_of_ble_eq_true rfl), (Nat.le_of_ble_eq_true rfl)⟩ ?_
      exact Or.inr ⟨hK, rfl, rfl, hg⟩
  · obtain ⟨y, rfl, hf⟩ := hq
    refine V_i2l hC kL_load_6 ?_
    refine V_last hC 0 rfl kL_load_7 (vp_lit rfl) ?_
    refine V_goto (Cx_L hC) 14 kL_load_8 (by decide) ?_
    refine V_iconst (Cx_L hC) 0 kL_load_14 (by decide) ?_
    refine V_iretL (Cx_L hC) rfl rfl kL_load_15 ⟨(Nat.le_of_ble_eq_true rfl), (Nat.le_of_ble_eq_true rfl)⟩ ?_
    exact Or.inl ⟨rfl, y, rfl, hf⟩
