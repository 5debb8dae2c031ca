-- HOW ct_in fI
-- HOW ct_fails fI
-- HOW ct_of fI
-- HOW ct_ofBoat fI
-- HOW ct_layBoat fV
-- HOW ct_isLight fI
-- HOW ct_isBoat fI
-- HOW ct_isPlace fI
-- HOW ct_bright fI
-- HOW ct_worth fI
-- HOW ct_serves fI
-- HOW ct_best fI
-- HOW ct_sails fV
-- HOW ct_drops fV
-- HOW ct_wished fI
-- HOW ct_hands fV
-- HOW ct_wishes fV
-- HOW ct_finds fV
-- HOW ct_goesOn fV
-- HOW ct_goesTick fV
-- HOW ct_goesBy fI
-- HOW ct_putAside fV
-- HOW ct_takeBack fV
-- HOW ct_isLamp fI
-- HOW ct_addsLight fI
-- HOW ct_actsLight fI
-- HOW ct_addsBoat fI
-- HOW ct_actsBoat fI
-- HOW ct_actsSteer fI
-- HOW ct_canTalk fI
-- HOW ct_actsTalk fI
-- HOW ct_actsLean fI
-- HOW ct_actsDim fI
-- HOW ct_mostOf fI
-- HOW ct_isSetting fI
-- HOW ct_actsSet fI
-- HOW ct_actsTicks fI
-- HOW ct_boatsThat fI
-- HOW ct_servedBy fI
-- HOW ct_begins fV
-- HOW ct_tellsAbout fI
-- HOW ct_about fM
-- HOW ct_lightOf fM
-- HOW ct_boatOf fM
-- HOW ct_brightness fM
-- HOW ct_bestAt fM
-- HOW ct_setting fM
-- HOW ct_saves fV
-- HOW ct_light fM
-- HOW ct_boat fM
-- HOW ct_steer fM
-- HOW ct_talk fM
-- HOW ct_lean fM
-- HOW ct_dim fM
-- HOW ct_set fM
-- HOW ct_ticks fM
-- HOW ct_undo fM
-- HOW ct_save fM
-- HOW ct_restore fM
-- HOW ct_bringsBy fI
-- HOW ct_ifMargin fM
-- HOW ct_held fI
-- HOW ct_room fI
-- HOW ct_dark fI
-- HOW ct_turns fV
-- HOW ct_simulate fM
-- HOW ct_border fM
-- HOW ct_handedIn fM
-- HOW ct_bestMargin fM
-- HOW ct_thrown fI
-- HOW ct_sign fI
-- HOW ct_number fI
-- HOW ct_carriesLight fI
-- HOW ct_carries fI
-- HOW ct_isCommand fI
-- HOW ct_append fM
-- HOW ct_clearText fM
-- HOW ct_readsAll fV
-- HOW ct_errorPosition fI
-- HOW ct_load rI
-- HOW ct_pair fI
-- HOW ct_laysFigures fV
-- HOW ct_succeeds fI
-- HOW ct_runScript rI
-- HOW cl_isPlace fI
-- HOW cl_isSpeed fI
-- HOW cl_isStrength fI
-- HOW cl_isTickCount fI
-- HOW cl_isSetting fI
-- HOW cl_isSlot fI
-- HOW cl_isSettingValue fI
-- HOW cl_shown fI
-- HOW cl_withoutGroups fL
-- HOW cl_lbegin fV
-- HOW cl_lcopy fV
-- HOW cl_bcopy fV
-- HOW cl_lnum fI
-- HOW cl_bnum fI
-- HOW cl_bright fI
-- HOW cl_worth fI
-- HOW cl_bitCount fI
-- HOW cl_servedCount fI
-- HOW cl_takesHandedOn fI
-- HOW cl_takesOthers fI
-- HOW cl_bbegin fV
-- HOW cl_move fV
-- HOW cl_wishFor fV
-- HOW cl_lightR fR
-- HOW cl_lightN fR
-- HOW cl_boatR fR
-- HOW cl_boatN fR
-- HOW cl_setR fI
-- HOW cl_lightAt fR
-- HOW cl_lightAtNo fR
-- HOW cl_boatAt fR
-- HOW cl_boatAtNo fR
-- HOW cl_settingOf fI
-- HOW cl_servedBoats fI
-- HOW cl_talkingBoats fI
-- HOW cl_numberOf fI
-- HOW cl_brightest fI
-- HOW cl_isDark fI
-- HOW cl_freePlaces fI
-- HOW cl_isServing fI
-- HOW cl_isServingAtLeast fI
-- HOW cl_isBoatAt fI
-- HOW cl_lightFault fI
-- HOW cl_boatFault fI
-- HOW cl_steerFault fI
-- HOW cl_dimFault fI
-- HOW cl_leanFault fI
-- HOW cl_talkFault fI
-- HOW cl_putSpeed rI
-- HOW cl_putTalk rI
-- HOW cl_putLeaning rI
-- HOW cl_putStrength rI
-- HOW cl_putSetting rI
-- HOW cl_addLight rI
-- HOW cl_addBoat rI
-- HOW cl_tryLight rI
-- HOW cl_tryBoat rI
-- HOW cl_trySteer rI
-- HOW cl_tryTalk rI
-- HOW cl_tryLean rI
-- HOW cl_tryDim rI
-- HOW cl_trySet rI
-- HOW cl_serve rV
-- HOW cl_lose rV
-- HOW cl_bestWish fI
-- HOW cl_seekKeeper rV
-- HOW cl_ask rV
-- HOW cl_setW fI
-- HOW cl_sail rV
-- HOW cl_pass rV
-- HOW cl_reset rV
-- HOW cl_copyFrom rV
-- HOW cl_stateAt fR
-- HOW cl_slotAt fR
-- HOW cl_hasStates fI
-- HOW cl_mreset rV
-- HOW cl_remember rV
-- HOW cl_takeBack rI
-- HOW cl_isKept fI
-- HOW cl_keep rV
-- HOW cl_bring rV
-- HOW cl_isFull fI
-- HOW cl_add fI
-- HOW cl_empty fI
-- HOW cl_hasMore fI
-- HOW cl_signAt fI
-- HOW cl_number fI
-- HOW cl_formOf fR
-- HOW cl_readNumber fI
-- HOW cl_formY fR
-- HOW cl_formN fR
-- HOW cl_readHead fI
-- HOW cl_readCommand rI
-- HOW cl_errorPlace rI
-- HOW cl_gained fI
-- HOW cl_tryMargin rV
-- HOW cl_until rI
-- HOW cl_dark fI
-- HOW cl_room fI
-- HOW cl_takeTurn rV
-- HOW cl_runCommand rI
-- HOW cl_obey rI
-- HOW cl_throwFault xV
-- HOW cf_about xI
-- HOW cf_lightOf xI
-- HOW cf_boatOf xI
-- HOW cf_brightness xI
-- HOW cf_bestAt xI
-- HOW cf_setting xI
-- HOW cf_light xI
-- HOW cf_boat xI
-- HOW cf_steer xI
-- HOW cf_talk xI
-- HOW cf_lean xI
-- HOW cf_dim xI
-- HOW cf_set xI
-- HOW cf_ticks xI
-- HOW cf_undo xI
-- HOW cf_save xI
-- HOW cf_restore xI
-- HOW cf_append xI
-- HOW cf_clearText fI
-- HOW cf_ifMargin xI
-- HOW cf_handedIn xI
-- HOW cf_errorPosition rI
-- HOW cf_simulate xI
-- HOW cf_border xI
-- HOW cf_bestMargin xI
-- HOW cf_runScript xI
-- HOW cf_load xI
/-! the law's wrappers, what is left but load and runScript -/
theorem rw_undo (c : Nat) : K_undo c = 0 ∨ K_undo c = 1 := by
  unfold K_undo; repeat' split
  all_goals first | exact Or.inl rfl | exact Or.inr rfl
def mtL_undo : Mt := (yL_undo, cL_undo, 3, (some .int), 8, 241, 1, 6)
theorem kL_undo_0 : Dk mtL_undo 0 (.aload_n 1) 1 1 := ⟨by decide +kernel, rfl⟩
theorem kL_undo_1 : Dk mtL_undo 1 (.iconst 0) 1 2 := ⟨by decide +kernel, rfl⟩
theorem kL_undo_2 : Dk mtL_undo 2 (.aload_n 0) 1 3 := ⟨by decide +kernel, rfl⟩
theorem kL_undo_3 : Dk mtL_undo 3 (.invokevirtual 67) 3 6 := ⟨by decide +kernel, rfl⟩
theorem kL_undo_6 : Dk mtL_undo 6 (.i2l) 1 7 := ⟨by decide +kernel, rfl⟩
theorem kL_undo_7 : Dk mtL_undo 7 (.lastore) 1 8 := ⟨by decide +kernel, rfl⟩
theorem kL_undo_8 : Dk mtL_undo 8 (.goto 6) 3 11 := ⟨by decide +kernel, rfl⟩
theorem kL_undo_11 : Dk mtL_undo 11 (.astore_n 2) 1 12 := ⟨by decide +kernel, rfl⟩
theorem kL_undo_12 : Dk mtL_undo 12 (.iconst 1) 1 13 := ⟨by decide +kernel, rfl⟩
theorem kL_undo_13 : Dk mtL_undo 13 (.ireturn) 1 14 := ⟨by decide +kernel, rfl⟩
theorem kL_undo_14 : Dk mtL_undo 14 (.iconst 0) 1 15 := ⟨by decide +kernel, rfl⟩
theorem kL_undo_15 : Dk mtL_undo 15 (.ireturn) 1 16 := ⟨by decide +kernel, rfl⟩
theorem mkX5_undo : MkV mtX5_undo 0 := ⟨List.mem_of_getElem? (i := 863) (by decide +kernel), by decide +kernel, by decide +kernel, by decide +kernel, ⟨by decide +kernel, by decide +kernel, by decide +kernel⟩⟩
theorem lxL_67 : Cond.methodLink RL 67 (mY mtX5_undo) ∈ lw_tbl := by decide +kernel
set_option maxHeartbeats 4000000 in
set_option maxRecDepth 100000 in
theorem lw_undo {l : Launch} {w : Wd} {sg : Sg} (hWr : Wr w) (hl0 : l.stackTraces = false) {o : Nat} {x : Nat} {g : Gs} (hR : Rel sg (x + 4) g) (hI : Inv g) {N : Nat} {G : Nat → Gs} {K : Nat → Bool} {S : Nat → Gs} (hm : MRel sg (x + 40) N G K S)  : MT l mtL_undo [(0, 8, 11, 15)] w [vR (some (5, 0, x)), vR (some (13, 1, o))] sg (PW o w (K_undo N) (fun r g2 => r = nI (N - 1) ∧ PM x (N - 1) G K S (G (N - 1)) sg g2) (fun g2 => g2 = sg)) := by
  refine MT_of [some (vR (some (5, 0, x))), some (vR (some (13, 1, o))), none] rfl (Nat.le_of_ble_eq_true rfl) (by decide +kernel) ?_
  intro p_ e_ s_ m_ args_ below_ meth_ c_ hC hX hO
  refine V_aload_n hC kL_undo_0 rfl ?_
  refine V_iconst hC (0) kL_undo_1 (by decide) ?_
  refine V_aload_n hC kL_undo_2 rfl ?_
  refine V_invVX hC hX.1 (cf_undo hWr hl0 hR hI hm) mkX5_undo lxL_67 kL_undo_3 (Nat.le_of_ble_eq_true rfl) rfl rfl rfl (Nat.le_of_ble_eq_true rfl) ⟨(Nat.le_of_ble_eq_true rfl), (Nat.le_of_ble_eq_true rfl)⟩ ⟨(Nat.le_of_ble_eq_true rfl), (Nat.le_of_ble_eq_true rfl)⟩ (fun E g9 hp => ?_) (fun r g9 hq => ?_)
  · obtain ⟨hK, hE, hg⟩ := hp
    rcases rw_undo N with h1 | h1
    · exact absurd h1 hK
    · obtain rfl : E = "java/lang/IllegalStateException" := by rw [hE, h1]; decide
      refine VX_catn hC hX [] [] (0, 8, 11, 15) rfl (by simp [xCl]) (fun _ h => absurd h List.not_mem_nil) ⟨by decide, by decide⟩ (by decide) lcl15 rfl kL_undo_11 (Nat.le_of_ble_eq_true rfl) ?_
      refine V_iconst hC 1 kL_undo_12 (by decide) ?_
      refine V_iretL hC rfl rfl kL_undo_13 ⟨(Nat.le_of_ble_eq_true rfl), (Nat.le_of_ble_eq_true rfl)⟩ ?_
      exact Or.inr ⟨hK, by rw [h1], rfl, hg⟩
  · obtain ⟨y, rfl, hK, hf⟩ := hq
    refine V_i2l hC kL_undo_6 ?_
    refine V_last hC 0 rfl kL_undo_7 (vp_lit rfl) ?_
    refine V_goto (Cx_L hC) 14 kL_undo_8 (by decide) ?_
    refine V_iconst (Cx_L hC) 0 kL_undo_14 (by decide) ?_
    refine V_iretL (Cx_L hC) rfl rfl kL_undo_15 ⟨(Nat.le_of_ble_eq_true rfl), (Nat.le_of_ble_eq_true rfl)⟩ ?_
    exact Or.inl ⟨hK, rfl, y, rfl, hf⟩
theorem rw_save (a : Int32) : K_slot a = 0 ∨ K_slot a = 1 := by
  unfold K_slot; repeat' split
  all_goals first | exact Or.inl rfl | exact Or.inr rfl
def mtL_save : Mt := (yL_save, cL_save, 4, (some .int), 8, 242, 1, 6)
theorem kL_save_0 : Dk mtL_save 0 (.aload_n 2) 1 1 := ⟨by decide +kernel, rfl⟩
theorem kL_save_1 : Dk mtL_save 1 (.iconst 0) 1 2 := ⟨by decide +kernel, rfl⟩
theorem kL_save_2 : Dk mtL_save 2 (.aload_n 0) 1 3 := ⟨by decide +kernel, rfl⟩
theorem kL_save_3 : Dk mtL_save 3 (.iload_n 1) 1 4 := ⟨by decide +kernel, rfl⟩
theorem kL_save_4 : Dk mtL_save 4 (.invokevirtual 91) 3 7 := ⟨by decide +kernel, rfl⟩
theorem kL_save_7 : Dk mtL_save 7 (.i2l) 1 8 := ⟨by decide +kernel, rfl⟩
theorem kL_save_8 : Dk mtL_save 8 (.lastore) 1 9 := ⟨by decide +kernel, rfl⟩
theorem kL_save_9 : Dk mtL_save 9 (.goto 6) 3 12 := ⟨by decide +kernel, rfl⟩
theorem kL_save_12 : Dk mtL_save 12 (.astore_n 3) 1 13 := ⟨by decide +kernel, rfl⟩
theorem kL_save_13 : Dk mtL_save 13 (.iconst 1) 1 14 := ⟨by decide +kernel, rfl⟩
theorem kL_save_14 : Dk mtL_save 14 (.ireturn) 1 15 := ⟨by decide +kernel, rfl⟩
theorem kL_save_15 : Dk mtL_save 15 (.iconst 0) 1 16 := ⟨by decide +kernel, rfl⟩
theorem kL_save_16 : Dk mtL_save 16 (.ireturn) 1 17 := ⟨by decide +kernel, rfl⟩
theorem mkX5_save : MkV mtX5_save 1 := ⟨List.mem_of_getElem? (i := 984) (by decide +kernel), by decide +kernel, by decide +kernel, by decide +kernel, ⟨by decide +kernel, by decide +kernel, by decide +kernel⟩⟩
theorem lxL_91 : Cond.methodLink RL 91 (mY mtX5_save) ∈ lw_tbl := by decide +kernel
set_option maxHeartbeats 4000000 in
set_option maxRecDepth 100000 in
theorem lw_save {l : Launch} {w : Wd} {sg : Sg} (hWr : Wr w) (hl0 : l.stackTraces = false) (a : Int32) {o : Nat} {x : Nat} {g : Gs} (hR : Rel sg (x + 4) g) (hI : Inv g) {N : Nat} {G : Nat → Gs} {K : Nat → Bool} {S : Nat → Gs} (hm : MRel sg (x + 40) N G K S)  : MT l mtL_save [(0, 9, 12, 28)] w [vR (some (5, 0, x)), vI a, vR (some (13, 1, o))] sg (PW o w (K_slot a) (fun r g2 => r = g 6 ∧ PM x N G (fun i => if i = tn a then true else K i) (fun i => if i = tn a then g else S i) g sg g2) (fun g2 => g2 = sg)) := by
  refine MT_of [some (vR (some (5, 0, x))), some (vI a), some (vR (some (13, 1, o))), none] rfl (Nat.le_of_ble_eq_true rfl) (by decide +kernel) ?_
  intro p_ e_ s_ m_ args_ below_ meth_ c_ hC hX hO
  refine V_aload_n hC kL_save_0 rfl ?_
  refine V_iconst hC (0) kL_save_1 (by decide) ?_
  refine V_aload_n hC kL_save_2 rfl ?_
  refine V_iload_n hC kL_save_3 rfl ?_
  refine V_invVX hC hX.1 (cf_save hWr hl0 a hR hI hm) mkX5_save lxL_91 kL_save_4 (Nat.le_of_ble_eq_true rfl) rfl rfl rfl (Nat.le_of_ble_eq_true rfl) ⟨(Nat.le_of_ble_eq_true rfl), (Nat.le_of_ble_eq_true rfl)⟩ ⟨(Nat.le_of_ble_eq_true rfl), (Nat.le_of_ble_eq_true rfl)⟩ (fun E g9 hp => ?_) (fun r g9 hq => ?_)
  · obtain ⟨hK, hE, hg⟩ := hp
    rcases rw_save a with h1 | h1
    · exact absurd h1 hK
    · obtain rfl : E = "java/lang/IndexOutOfBoundsException" := by rw [hE, h1]; decide
      refine VX_catn hC hX [] [] (0, 9, 12, 28) rfl (by simp [xCl]) (fun _ h => absurd h List.not_mem_nil) ⟨by decide, by decide⟩ (by decide) lcl28 rfl kL_save_12 (Nat.le_of_ble_eq_true rfl) ?_
      refine V_iconst hC 1 kL_save_13 (by decide) ?_
      refine V_iretL hC rfl rfl kL_save_14 ⟨(Nat.le_of_ble_eq_true rfl), (Nat.le_of_ble_eq_true rfl)⟩ ?_
      exact Or.inr ⟨hK, by rw [h1], rfl, hg⟩
  · obtain ⟨y, rfl, hK, hf⟩ := hq
    refine V_i2l hC kL_save_7 ?_
    refine V_last hC 0 rfl kL_save_8 (vp_lit rfl) ?_
    refine V_goto (Cx_L hC) 15 kL_save_9 (by decide) ?_
    refine V_iconst (Cx_L hC) 0 kL_save_15 (by decide) ?_
    refine V_iretL (Cx_L hC) rfl rfl kL_save_16 ⟨(Nat.le_of_ble_eq_true rfl), (Nat.le_of_ble_eq_true rfl)⟩ ?_
    exact Or.inl ⟨hK, rfl, y, rfl, hf⟩
theorem rw_restore (K : Nat → Bool) (a : Int32) : KR K a = 0 ∨ KR K a = 1 ∨ KR K a = 2 := by
  unfold KR; repeat' split
  all_goals first | exact Or.inl rfl | exact Or.inr (Or.inl rfl) | exact Or.inr (Or.inr rfl)
def mtL_restore : Mt := (yL_restore, cL_restore, 4, (some .int), 8, 242, 1, 6)
theorem kL_restore_0 : Dk mtL_restore 0 (.aload_n 2) 1 1 := ⟨by decide +kernel, rfl⟩
theorem kL_restore_1 : Dk mtL_restore 1 (.iconst 0) 1 2 := ⟨by decide +kernel, rfl⟩
theorem kL_restore_2 : Dk mtL_restore 2 (.aload_n 0) 1 3 := ⟨by decide +kernel, rfl⟩
theorem kL_restore_3 : Dk mtL_restore 3 (.iload_n 1) 1 4 := ⟨by decide +kernel, rfl⟩
theorem kL_restore_4 : Dk mtL_restore 4 (.invokevirtual 94) 3 7 := ⟨by decide +kernel, rfl⟩
theorem kL_restore_7 : Dk mtL_restore 7 (.i2l) 1 8 := ⟨by decide +kernel, rfl⟩
theorem kL_restore_8 : Dk mtL_restore 8 (.lastore) 1 9 := ⟨by decide +kernel, rfl⟩
theorem kL_restore_9 : Dk mtL_restore 9 (.goto 9) 3 12 := ⟨by decide +kernel, rfl⟩
theorem kL_restore_12 : Dk mtL_restore 12 (.astore_n 3) 1 13 := ⟨by decide +kernel, rfl⟩
theorem kL_restore_13 : Dk mtL_restore 13 (.iconst 1) 1 14 := ⟨by decide +kernel, rfl⟩
theorem kL_restore_14 : Dk mtL_restore 14 (.ireturn) 1 15 := ⟨by decide +kernel, rfl⟩
theorem kL_restore_15 : Dk mtL_restore 15 (.astore_n 3) 1 16 := ⟨by decide +kernel, rfl⟩
theorem kL_restore_16 : Dk mtL_restore 16 (.iconst 2) 1 17 := ⟨by decide +kernel, rfl⟩
theorem kL_restore_17 : Dk mtL_restore 17 (.ireturn) 1 18 := ⟨by decide +kernel, rfl⟩
theorem kL_restore_18 : Dk mtL_restore 18 (.iconst 0) 1 19 := ⟨by decide +kernel, rfl⟩
theorem kL_restore_19 : Dk mtL_restore 19 (.ireturn) 1 20 := ⟨by decide +kernel, rfl⟩
theorem mkX5_restore : MkV mtX5_restore 1 := ⟨List.mem_of_getElem? (i := 1003) (by decide +kernel), by decide +kernel, by decide +kernel, by decide +kernel, ⟨by decide +kernel, by decide +kernel, by decide +kernel⟩⟩
theorem lxL_94 : Cond.methodLink RL 94 (mY mtX5_restore) ∈ lw_tbl := by decide +kernel
set_option maxHeartbeats 4000000 in
set_option maxRecDepth 100000 in
theorem lw_restore {l : Launch} {w : Wd} {sg : Sg} (hWr : Wr w) (hl0 : l.stackTraces = false) (a : Int32) {o : Nat} {x : Nat} {g : Gs} (hR : Rel sg (x + 4) g) (hI : Inv g) {N : Nat} {G : Nat → Gs} {K : Nat → Bool} {S : Nat → Gs} (hm : MRel sg (x + 40) N G K S)  : MT l mtL_restore [(0, 9, 12, 28), (0, 9, 15, 15)] w [vR (some (5, 0, x)), vI a, vR (some (13, 1, o))] sg (PW o w (KR K a) (fun r g2 => r = S (tn a) 6 ∧ PM x 0 G K S (S (tn a)) sg g2) (fun g2 => g2 = sg)) := by
  refine MT_of [some (vR (some (5, 0, x))), some (vI a), some (vR (some (13, 1, o))), none] rfl (Nat.le_of_ble_eq_true rfl) (by decide +kernel) ?_
  intro p_ e_ s_ m_ args_ below_ meth_ c_ hC hX hO
  refine V_aload_n hC kL_restore_0 rfl ?_
  refine V_iconst hC (0) kL_restore_1 (by decide) ?_
  refine V_aload_n hC kL_restore_2 rfl ?_
  refine V_iload_n hC kL_restore_3 rfl ?_
  refine V_invVX hC hX.1 (cf_restore hWr hl0 a hR hI hm) mkX5_restore lxL_94 kL_restore_4 (Nat.le_of_ble_eq_true rfl) rfl rfl rfl (Nat.le_of_ble_eq_true rfl) ⟨(Nat.le_of_ble_eq_true rfl), (Nat.le_of_ble_eq_true rfl)⟩ ⟨(Nat.le_of_ble_eq_true rfl), (Nat.le_of_ble_eq_true rfl)⟩ (fun E g9 hp => ?_) (fun r g9 hq => ?_)
  · obtain ⟨hK, hE, hg⟩ := hp
    rcases rw_restore K a with h1 | h1 | h1
    · exact absurd h1 hK
    · obtain rfl : E = "java/lang/IndexOutOfBoundsException" := by rw [hE, h1]; decide
      refine VX_catn hC hX [] [(0, 9, 15, 15)] (0, 9, 12, 28) rfl (by simp [xCl]) (fun _ h => absurd h List.not_mem_nil) ⟨by decide, by decide⟩ (by decide) lcl28 rfl kL_restore_12 (Nat.le_of_ble_eq_true rfl) ?_
      refine V_iconst hC 1 kL_restore_13 (by decide) ?_
      refine V_iretL hC rfl rfl kL_restore_14 ⟨(Nat.le_of_ble_eq_true rfl), (Nat.le_of_ble_eq_true rfl)⟩ ?_
      exact Or.inr ⟨hK, by rw [h1], rfl, hg⟩
    · obtain rfl : E = "java/lang/IllegalStateException" := by rw [hE, h1]; decide
      refine VX_catn hC hX [(0, 9, 12, 28)] [] (0, 9, 15, 15) rfl (by simp [xCl]) (List.forall_mem_cons.mpr ⟨⟨by decide, "java/lang/IndexOutOfBoundsException", by simp [xCl], lcl28, by decide⟩, (fun _ h => absurd h List.not_mem_nil)⟩) ⟨by decide, by decide⟩ (by decide) lcl15 rfl kL_restore_15 (Nat.le_of_ble_eq_true rfl) ?_
      refine V_iconst hC 2 kL_restore_16 (by decide) ?_
      refine V_iretL hC rfl rfl kL_restore_17 ⟨(Nat.le_of_ble_eq_true rfl), (Nat.le_of_ble_eq_true rfl)⟩ ?_
      exact Or.inr ⟨hK, by rw [h1], rfl, hg⟩
  · obtain ⟨y, rfl, hK, hf⟩ := hq
    refine V_i2l hC kL_restore_7 ?_
    refine V_last hC 0 rfl kL_restore_8 (vp_lit rfl) ?_
    refine V_goto (Cx_L hC) 18 kL_restore_9 (by decide) ?_
    refine V_iconst (Cx_L hC) 0 kL_restore_18 (by decide) ?_
    refine V_iretL (Cx_L hC) rfl rfl kL_restore_19 ⟨(Nat.le_of_ble_eq_true rfl), (Nat.le_of_ble_eq_true rfl)⟩ ?_
    exact Or.inl ⟨hK, rfl, y, rfl, hf⟩
theorem rw_border (k : Int32) : K_border k = 0 ∨ K_border k = 1 := by
  unfold K_border; repeat' split
  all_goals first | exact Or.inl rfl | exact Or.inr rfl
def mtL_border : Mt := (yL_border, cL_border, 4, (some .int), 8, 246, 1, 6)
theorem kL_border_0 : Dk mtL_border 0 (.aload_n 2) 1 1 := ⟨by decide +kernel, rfl⟩
theorem kL_border_1 : Dk mtL_border 1 (.iconst 0) 1 2 := ⟨by decide +kernel, rfl⟩
theorem kL_border_2 : Dk mtL_border 2 (.aload_n 0) 1 3 := ⟨by decide +kernel, rfl⟩
theorem kL_border_3 : Dk mtL_border 3 (.iload_n 1) 1 4 := ⟨by decide +kernel, rfl⟩
theorem kL_border_4 : Dk mtL_border 4 (.invokevirtual 80) 3 7 := ⟨by decide +kernel, rfl⟩
theorem kL_border_7 : Dk mtL_border 7 (.i2l) 1 8 := ⟨by decide +kernel, rfl⟩
theorem kL_border_8 : Dk mtL_border 8 (.lastore) 1 9 := ⟨by decide +kernel, rfl⟩
theorem kL_border_9 : Dk mtL_border 9 (.goto 6) 3 12 := ⟨by decide +kernel, rfl⟩
theorem kL_border_12 : Dk mtL_border 12 (.astore_n 3) 1 13 := ⟨by decide +kernel, rfl⟩
theorem kL_border_13 : Dk mtL_border 13 (.iconst 1) 1 14 := ⟨by decide +kernel, rfl⟩
theorem kL_border_14 : Dk mtL_border 14 (.ireturn) 1 15 := ⟨by decide +kernel, rfl⟩
theorem kL_border_15 : Dk mtL_border 15 (.iconst 0) 1 16 := ⟨by decide +kernel, rfl⟩
theorem kL_border_16 : Dk mtL_border 16 (.ireturn) 1 17 := ⟨by decide +kernel, rfl⟩
theorem mkX5_border : MkV mtX5_border 1 := ⟨List.mem_of_getElem? (i := 917) (by decide +kernel), by decide +kernel, by decide +kernel, by decide +kernel, ⟨by decide +kernel, by decide +kernel, by decide +kernel⟩⟩
theorem lxL_80 : Cond.methodLink RL 80 (mY mtX5_border) ∈ lw_tbl := by decide +kernel
set_option maxHeartbeats 4000000 in
set_option maxRecDepth 100000 in
theorem lw_border {l : Launch} {w : Wd} {sg : Sg} (hWr : Wr w) (hl0 : l.stackTraces = false) (k : Int32) {o : Nat} {x : Nat} {g : Gs} (hR : Rel sg (x + 4) g) (hI : Inv g) : MT l mtL_border [(0, 9, 12, 13)] w [vR (some (5, 0, x)), vI k, vR (some (13, 1, o))] sg (PW o w (K_border k) (fun r g2 => r = R_border g k ∧ g2 = sg) (fun g2 => g2 = sg)) := by
  refine MT_of [some (vR (some (5, 0, x))), some (vI k), some (vR (some (13, 1, o))), none] rfl (Nat.le_of_ble_eq_true rfl) (by decide +kernel) ?_
  intro p_ e_ s_ m_ args_ below_ meth_ c_ hC hX hO
  refine V_aload_n hC kL_border_0 rfl ?_
  refine V_iconst hC (0) kL_border_1 (by decide) ?_
  refine V_aload_n hC kL_border_2 rfl ?_
  refine V_iload_n hC kL_border_3 rfl ?_
  refine V_invVX hC hX.1 (cf_border hWr hl0 k hR hI) mkX5_border lxL_80 kL_border_4 (Nat.le_of_ble_eq_true rfl) rfl rfl rfl (Nat.le_of_ble_eq_true rfl) ⟨(Nat.le_of_ble_eq_true rfl), (Nat.le_of_ble_eq_true rfl)⟩ ⟨(Nat.le_of_ble_eq_true rfl), (Nat.le_of_ble_eq_true rfl)⟩ (fun E g9 hp => ?_) (fun r g9 hq => ?_)
  · obtain ⟨hK, hE, hg⟩ := hp
    rcases rw_border k with h1 | h1
    · exact absurd h1 hK
    · obtain rfl : E = "java/lang/IllegalArgumentException" := by rw [hE, h1]; decide
      refine VX_catn hC hX [] [] (0, 9, 12, 13) rfl (by simp [xCl]) (fun _ h => absurd h List.not_mem_nil) ⟨by decide, by decide⟩ (by decide) lcl13 rfl kL_border_12 (Nat.le_of_ble_eq_true rfl) ?_
      refine V_iconst hC 1 kL_border_13 (by decide) ?_
      refine V_iretL hC rfl rfl kL_border_14 ⟨(Nat.le_of_ble_eq_true rfl), (Nat.le_of_ble_eq_true rfl)⟩ ?_
      exact Or.inr ⟨hK, by rw [h1], rfl, hg⟩
  · obtain ⟨y, rfl, hK, hf⟩ := hq
    refine V_i2l hC kL_border_7 ?_
    refine V_last hC 0 rfl kL_border_8 (vp_lit rfl) ?_
    refine V_goto (Cx_L hC) 15 kL_border_9 (by decide) ?_
    refine V_iconst (Cx_L hC) 0 kL_border_15 (by decide) ?_
    refine V_iretL (Cx_L hC) rfl rfl kL_border_16 ⟨(Nat.le_of_ble_eq_true rfl), (Nat.le_of_ble_eq_true rfl)⟩ ?_
    exact Or.inl ⟨hK, rfl, y, rfl, hf⟩
theorem rw_ifMargin (v n a : Int32) : K_ifMargin v n a = 0 ∨ K_ifMargin v n a = 1 := by
  unfold K_ifMargin; repeat' split
  all_goals first | exact Or.inl rfl | exact Or.inr rfl
def mtL_ifMargin : Mt := (yL_ifMargin, cL_ifMargin, 6, (some .int), 8, 244, 1, 6)
theorem kL_ifMargin_0 : Dk mtL_ifMargin 0 (.aload 4) 2 2 := ⟨by decide +kernel, rfl⟩
theorem kL_ifMargin_2 : Dk mtL_ifMargin 2 (.iconst 0) 1 3 := ⟨by decide +kernel, rfl⟩
theorem kL_ifMargin_3 : Dk mtL_ifMargin 3 (.aload_n 0) 1 4 := ⟨by decide +kernel, rfl⟩
theorem kL_ifMargin_4 : Dk mtL_ifMargin 4 (.iload_n 1) 1 5 := ⟨by decide +kernel, rfl⟩
theorem kL_ifMargin_5 : Dk mtL_ifMargin 5 (.iload_n 2) 1 6 := ⟨by decide +kernel, rfl⟩
theorem kL_ifMargin_6 : Dk mtL_ifMargin 6 (.iload_n 3) 1 7 := ⟨by decide +kernel, rfl⟩
theorem kL_ifMargin_7 : Dk mtL_ifMargin 7 (.invokevirtual 73) 3 10 := ⟨by decide +kernel, rfl⟩
theorem kL_ifMargin_10 : Dk mtL_ifMargin 10 (.i2l) 1 11 := ⟨by decide +kernel, rfl⟩
theorem kL_ifMargin_11 : Dk mtL_ifMargin 11 (.lastore) 1 12 := ⟨by decide +kernel, rfl⟩
theorem kL_ifMargin_12 : Dk mtL_ifMargin 12 (.goto 7) 3 15 := ⟨by decide +kernel, rfl⟩
theorem kL_ifMargin_15 : Dk mtL_ifMargin 15 (.astore 5) 2 17 := ⟨by decide +kernel, rfl⟩
theorem kL_ifMargin_17 : Dk mtL_ifMargin 17 (.iconst 1) 1 18 := ⟨by decide +kernel, rfl⟩
theorem kL_ifMargin_18 : Dk mtL_ifMargin 18 (.ireturn) 1 19 := ⟨by decide +kernel, rfl⟩
theorem kL_ifMargin_19 : Dk mtL_ifMargin 19 (.iconst 0) 1 20 := ⟨by decide +kernel, rfl⟩
theorem kL_ifMargin_20 : Dk mtL_ifMargin 20 (.ireturn) 1 21 := ⟨by decide +kernel, rfl⟩
theorem mkX5_ifMargin : MkV mtX5_ifMargin 3 := ⟨List.mem_of_getElem? (i := 892) (by decide +kernel), by decide +kernel, by decide +kernel, by decide +kernel, ⟨by decide +kernel, by decide +kernel, by decide +kernel⟩⟩
theorem lxL_73 : Cond.methodLink RL 73 (mY mtX5_ifMargin) ∈ lw_tbl := by decide +kernel
set_option maxHeartbeats 4000000 in
set_option maxRecDepth 100000 in
theorem lw_ifMargin {l : Launch} {w : Wd} {sg : Sg} (hWr : Wr w) (hl0 : l.stackTraces = false) (v n a : Int32) {o : Nat} {x : Nat} {g : Gs} (hR : Rel sg (x + 4) g) (hI : Inv g) (hT : Bt sg (x + 22)) : MT l mtL_ifMargin [(0, 12, 15, 13)] w [vR (some (5, 0, x)), vI v, vI n, vI a, vR (some (13, 1, o))] sg (PW o w (K_ifMargin v n a) (fun r g2 => r = R_brings g v (tn n) (7 + tn a) ∧ Fr (x + 22) sg g2 ∧ Bt g2 (x + 22)) (fun g2 => g2 = sg)) := by
  refine MT_of [some (vR (some (5, 0, x))), some (vI v), some (vI n), some (vI a), some (vR (some (13, 1, o))), none] rfl (Nat.le_of_ble_eq_true rfl) (by decide +kernel) ?_
  intro p_ e_ s_ m_ args_ below_ meth_ c_ hC hX hO
  refine V_aload hC kL_ifMargin_0 rfl ?_
  refine V_iconst hC (0) kL_ifMargin_2 (by decide) ?_
  refine V_aload_n hC kL_ifMargin_3 rfl ?_
  refine V_iload_n hC kL_ifMargin_4 rfl ?_
  refine V_iload_n hC kL_ifMargin_5 rfl ?_
  refine V_iload_n hC kL_ifMargin_6 rfl ?_
  refine V_invVX hC hX.1 (cf_ifMargin hWr hl0 v n a hR hI hT) mkX5_ifMargin lxL_73 kL_ifMargin_7 (Nat.le_of_ble_eq_true rfl) rfl rfl rfl (Nat.le_of_ble_eq_true rfl) ⟨(Nat.le_of_ble_eq_true rfl), (Nat.le_of_ble_eq_true rfl)⟩ ⟨(Nat.le_of_ble_eq_true rfl), (Nat.le_of_ble_eq_true rfl)⟩ (fun E g9 hp => ?_) (fun r g9 hq => ?_)
  · obtain ⟨hK, hE, hg⟩ := hp
    rcases rw_ifMargin v n a with h1 | h1
    · exact absurd h1 hK
    · obtain rfl : E = "java/lang/IllegalArgumentException" := by rw [hE, h1]; decide
      refine VX_cat hC hX [] [] (0, 12, 15, 13) rfl (by simp [xCl]) (fun _ h => absurd h List.not_mem_nil) ⟨by decide, by decide⟩ (by decide) lcl13 rfl kL_ifMargin_15 (Nat.le_of_ble_eq_true rfl) ?_
      refine V_iconst hC 1 kL_ifMargin_17 (by decide) ?_
      refine V_iretL hC rfl rfl kL_ifMargin_18 ⟨(Nat.le_of_ble_eq_true rfl), (Nat.le_of_ble_eq_true rfl)⟩ ?_
      exact Or.inr ⟨hK, by rw [h1], rfl, hg⟩
  · obtain ⟨y, rfl, hK, hf⟩ := hq
    refine V_i2l hC kL_ifMargin_10 ?_
    refine V_last hC 0 rfl kL_ifMargin_11 (vp_lit rfl) ?_
    refine V_goto (Cx_L hC) 19 kL_ifMargin_12 (by decide) ?_
    refine V_iconst (Cx_L hC) 0 kL_ifMargin_19 (by decide) ?_
    refine V_iretL (Cx_L hC) rfl rfl kL_ifMargin_20 ⟨(Nat.le_of_ble_eq_true rfl), (Nat.le_of_ble_eq_true rfl)⟩ ?_
    exact Or.inl ⟨hK, rfl, y, rfl, hf⟩
theorem rw_bestMargin (n : Int32) : K_bestMargin n = 0 ∨ K_bestMargin n = 1 := by
  unfold K_bestMargin; repeat' split
  all_goals first | exact Or.inl rfl | exact Or.inr rfl
def mtL_bestMargin : Mt := (yL_bestMargin, cL_bestMargin, 4, (some .int), 8, 248, 1, 6)
theorem kL_bestMargin_0 : Dk mtL_bestMargin 0 (.aload_n 2) 1 1 := ⟨by decide +kernel, rfl⟩
theorem kL_bestMargin_1 : Dk mtL_bestMargin 1 (.iconst 0) 1 2 := ⟨by decide +kernel, rfl⟩
theorem kL_bestMargin_2 : Dk mtL_bestMargin 2 (.aload_n 0) 1 3 := ⟨by decide +kernel, rfl⟩
theorem kL_bestMargin_3 : Dk mtL_bestMargin 3 (.iload_n 1) 1 4 := ⟨by decide +kernel, rfl⟩
theorem kL_bestMargin_4 : Dk mtL_bestMargin 4 (.invokevirtual 77) 3 7 := ⟨by decide +kernel, rfl⟩
theorem kL_bestMargin_7 : Dk mtL_bestMargin 7 (.i2l) 1 8 := ⟨by decide +kernel, rfl⟩
theorem kL_bestMargin_8 : Dk mtL_bestMargin 8 (.lastore) 1 9 := ⟨by decide +kernel, rfl⟩
theorem kL_bestMargin_9 : Dk mtL_bestMargin 9 (.goto 6) 3 12 := ⟨by decide +kernel, rfl⟩
theorem kL_bestMargin_12 : Dk mtL_bestMargin 12 (.astore_n 3) 1 13 := ⟨by decide +kernel, rfl⟩
theorem kL_bestMargin_13 : Dk mtL_bestMargin 13 (.iconst 1) 1 14 := ⟨by decide +kernel, rfl⟩
theorem kL_bestMargin_14 : Dk mtL_bestMargin 14 (.ireturn) 1 15 := ⟨by decide +kernel, rfl⟩
theorem kL_bestMargin_15 : Dk mtL_bestMargin 15 (.iconst 0) 1 16 := ⟨by decide +kernel, rfl⟩
theorem kL_bestMargin_16 : Dk mtL_bestMargin 16 (.ireturn) 1 17 := ⟨by decide +kernel, rfl⟩
theorem mkX5_bestMargin : MkV mtX5_bestMargin 1 := ⟨List.mem_of_getElem? (i := 909) (by decide +kernel), by decide +kernel, by decide +kernel, by decide +kernel, ⟨by decide +kernel, by decide +kernel, by decide +kernel⟩⟩
theorem lxL_77 : Cond.methodLink RL 77 (mY mtX5_bestMargin) ∈ lw_tbl := by decide +kernel
set_option maxHeartbeats 4000000 in
set_option maxRecDepth 100000 in
theorem lw_bestMargin {l : Launch} {w : Wd} {sg : Sg} (hWr : Wr w) (hl0 : l.stackTraces = false) (n : Int32) {o : Nat} {x : Nat} {g : Gs} (hR : Rel sg (x + 4) g) (hI : Inv g) (hT : Bt sg (x + 22)) : MT l mtL_bestMargin [(0, 9, 12, 13)] w [vR (some (5, 0, x)), vI n, vR (some (13, 1, o))] sg (PW o w (K_bestMargin n) (fun r g2 => r = (F_bm g (tn n) 13).1 ∧ Fr (x + 22) sg g2 ∧ Bt g2 (x + 22)) (fun g2 => g2 = sg)) := by
  refine MT_of [some (vR (some (5, 0, x))), some (vI n), some (vR (some (13, 1, o))), none] rfl (Nat.le_of_ble_eq_true rfl) (by decide +kernel) ?_
  intro p_ e_ s_ m_ args_ below_ meth_ c_ hC hX hO
  refine V_aload_n hC kL_bestMargin_0 rfl ?_
  refine V_iconst hC (0) kL_bestMargin_1 (by decide) ?_
  refine V_aload_n hC kL_bestMargin_2 rfl ?_
  refine V_iload_n hC kL_bestMargin_3 rfl ?_
  refine V_invVX hC hX.1 (cf_bestMargin hWr hl0 n hR hI hT) mkX5_bestMargin lxL_77 kL_bestMargin_4 (Nat.le_of_ble_eq_true rfl) rfl rfl rfl (Nat.le_of_ble_eq_true rfl) ⟨(Nat.le_of_ble_eq_true rfl), (Nat.le_of_ble_eq_true rfl)⟩ ⟨(Nat.le_of_ble_eq_true rfl), (Nat.le_of_ble_eq_true rfl)⟩ (fun E g9 hp => ?_) (fun r g9 hq => ?_)
  · obtain ⟨hK, hE, hg⟩ := hp
    rcases rw_bestMargin n with h1 | h1
    · exact absurd h1 hK
    · obtain rfl : E = "java/lang/IllegalArgumentException" := by rw [hE, h1]; decide
      refine VX_catn hC hX [] [] (0, 9, 12, 13) rfl (by simp [xCl]) (fun _ h => absurd h List.not_mem_nil) ⟨by decide, by decide⟩ (by decide) lcl13 rfl kL_bestMargin_12 (Nat.le_of_ble_eq_true rfl) ?_
      refine V_iconst hC 1 kL_bestMargin_13 (by decide) ?_
      refine V_iretL hC rfl rfl kL_bestMargin_14 ⟨(Nat.le_of_ble_eq_true rfl), (Nat.le_of_ble_eq_true rfl)⟩ ?_
      exact Or.inr ⟨hK, by rw [h1], rfl, hg⟩
  · obtain ⟨y, rfl, hK, hf⟩ := hq
    refine V_i2l hC kL_bestMargin_7 ?_
    refine V_last hC 0 rfl kL_bestMargin_8 (vp_lit rfl) ?_
    refine V_goto (Cx_L hC) 15 kL_bestMargin_9 (by decide) ?_
    refine V_iconst (Cx_L hC) 0 kL_bestMargin_15 (by decide) ?_
    refine V_iretL (Cx_L hC) rfl rfl kL_bestMargin_16 ⟨(Nat.le_of_ble_eq_true rfl), (Nat.le_of_ble_eq_true rfl)⟩ ?_
    exact Or.inl ⟨hK, rfl, y, rfl, hf⟩
theorem rw_handedIn (g : Gs) (b a : Int32) : K_handedIn g b a = 0 ∨ K_handedIn g b a = 1 ∨ K_handedIn g b a = 2 := by
  unfold K_handedIn; repeat' split
  all_goals first | exact Or.inl rfl | exact Or.inr (Or.inl rfl) | exact Or.inr (Or.inr rfl)
def mtL_handedIn : Mt := (yL_handedIn, cL_handedIn, 5, (some .int), 8, 246, 1, 6)
theorem kL_handedIn_0 : Dk mtL_handedIn 0 (.aload_n 3) 1 1 := ⟨by decide +kernel, rfl⟩
theorem kL_handedIn_1 : Dk mtL_handedIn 1 (.iconst 0) 1 2 := ⟨by decide +kernel, rfl⟩
theorem kL_handedIn_2 : Dk mtL_handedIn 2 (.aload_n 0) 1 3 := ⟨by decide +kernel, rfl⟩
theorem kL_handedIn_3 : Dk mtL_handedIn 3 (.iload_n 1) 1 4 := ⟨by decide +kernel, rfl⟩
theorem kL_handedIn_4 : Dk mtL_handedIn 4 (.iload_n 2) 1 5 := ⟨by decide +kernel, rfl⟩
theorem kL_handedIn_5 : Dk mtL_handedIn 5 (.invokevirtual 70) 3 8 := ⟨by decide +kernel, rfl⟩
theorem kL_handedIn_8 : Dk mtL_handedIn 8 (.i2l) 1 9 := ⟨by decide +kernel, rfl⟩
theorem kL_handedIn_9 : Dk mtL_handedIn 9 (.lastore) 1 10 := ⟨by decide +kernel, rfl⟩
theorem kL_handedIn_10 : Dk mtL_handedIn 10 (.goto 11) 3 13 := ⟨by decide +kernel, rfl⟩
theorem kL_handedIn_13 : Dk mtL_handedIn 13 (.astore 4) 2 15 := ⟨by decide +kernel, rfl⟩
theorem kL_handedIn_15 : Dk mtL_handedIn 15 (.iconst 1) 1 16 := ⟨by decide +kernel, rfl⟩
theorem kL_handedIn_16 : Dk mtL_handedIn 16 (.ireturn) 1 17 := ⟨by decide +kernel, rfl⟩
theorem kL_handedIn_17 : Dk mtL_handedIn 17 (.astore 4) 2 19 := ⟨by decide +kernel, rfl⟩
theorem kL_handedIn_19 : Dk mtL_handedIn 19 (.iconst 2) 1 20 := ⟨by decide +kernel, rfl⟩
theorem kL_handedIn_20 : Dk mtL_handedIn 20 (.ireturn) 1 21 := ⟨by decide +kernel, rfl⟩
theorem kL_handedIn_21 : Dk mtL_handedIn 21 (.iconst 0) 1 22 := ⟨by decide +kernel, rfl⟩
theorem kL_handedIn_22 : Dk mtL_handedIn 22 (.ireturn) 1 23 := ⟨by decide +kernel, rfl⟩
theorem mkX5_handedIn : MkV mtX5_handedIn 2 := ⟨List.mem_of_getElem? (i := 879) (by decide +kernel), by decide +kernel, by decide +kernel, by decide +kernel, ⟨by decide +kernel, by decide +kernel, by decide +kernel⟩⟩
theorem lxL_70 : Cond.methodLink RL 70 (mY mtX5_handedIn) ∈ lw_tbl := by decide +kernel
set_option maxHeartbeats 4000000 in
set_option maxRecDepth 100000 in
theorem lw_handedIn {l : Launch} {w : Wd} {sg : Sg} (hWr : Wr w) (hl0 : l.stackTraces = false) (b a : Int32) {o : Nat} {x : Nat} {g : Gs} (hR : Rel sg (x + 4) g) (hI : Inv g) (hT : Bt sg (x + 22)) : MT l mtL_handedIn [(0, 10, 13, 28), (0, 10, 17, 13)] w [vR (some (5, 0, x)), vI b, vI a, vR (some (13, 1, o))] sg (PW o w (K_handedIn g b a) (fun r g2 => r = RH g b a ∧ Fr (x + 22) sg g2 ∧ Bt g2 (x + 22)) (fun g2 => g2 = sg)) := by
  refine MT_of [some (vR (some (5, 0, x))), some (vI b), some (vI a), some (vR (some (13, 1, o))), none] rfl (Nat.le_of_ble_eq_true rfl) (by decide +kernel) ?_
  intro p_ e_ s_ m_ args_ below_ meth_ c_ hC hX hO
  refine V_aload_n hC kL_handedIn_0 rfl ?_
  refine V_iconst hC (0) kL_handedIn_1 (by decide) ?_
  refine V_aload_n hC kL_handedIn_2 rfl ?_
  refine V_iload_n hC kL_handedIn_3 rfl ?_
  refine V_iload_n hC kL_handedIn_4 rfl ?_
  refine V_invVX hC hX.1 (cf_handedIn hWr hl0 b a hR hI hT) mkX5_handedIn lxL_70 kL_handedIn_5 (Nat.le_of_ble_eq_true rfl) rfl rfl rfl (Nat.le_of_ble_eq_true rfl) ⟨(Nat.le_of_ble_eq_true rfl), (Nat.le_of_ble_eq_true rfl)⟩ ⟨(Nat.le_of_ble_eq_true rfl), (Nat.le_of_ble_eq_true rfl)⟩ (fun E g9 hp => ?_) (fun r g9 hq => ?_)
  · obtain ⟨hK, hE, hg⟩ := hp
    rcases rw_handedIn g b a with h1 | h1 | h1
    · exact absurd h1 hK
    · obtain rfl : E = "java/lang/IndexOutOfBoundsException" := by rw [hE, h1]; decide
      refine VX_cat hC hX [] [(0, 10, 17, 13)] (0, 10, 13, 28) rfl (by simp [xCl]) (fun _ h => absurd h List.not_mem_nil) ⟨by decide, by decide⟩ (by decide) lcl28 rfl kL_handedIn_13 (Nat.le_of_ble_eq_true rfl) ?_
      refine V_iconst hC 1 kL_handedIn_15 (by decide) ?_
      refine V_iretL hC rfl rfl kL_handedIn_16 ⟨(Nat.le_of_ble_eq_true rfl), (Nat.le_of_ble_eq_true rfl)⟩ ?_
      exact Or.inr ⟨hK, by rw [h1], rfl, hg⟩
    · obtain rfl : E = "java/lang/IllegalArgumentException" := by rw [hE, h1]; decide
      refine VX_cat hC hX [(0, 10, 13, 28)] [] (0, 10, 17, 13) rfl (by simp [xCl]) (List.forall_mem_cons.mpr ⟨⟨by decide, "java/lang/IndexOutOfBoundsException", by simp [xCl], lcl28, by decide⟩, (fun _ h => absurd h List.not_mem_nil)⟩) ⟨by decide, by decide⟩ (by decide) lcl13 rfl kL_handedIn_17 (Nat.le_of_ble_eq_true rfl) ?_
      refine V_iconst hC 2 kL_handedIn_19 (by decide) ?_
      refine V_iretL hC rfl rfl kL_handedIn_20 ⟨(Nat.le_of_ble_eq_true rfl), (Nat.le_of_ble_eq_true rfl)⟩ ?_
      exact Or.inr ⟨hK, by rw [h1], rfl, hg⟩
  · obtain ⟨y, rfl, hK, hf⟩ := hq
    refine V_i2l hC kL_handedIn_8 ?_
    refine V_last hC 0 rfl kL_handedIn_9 (vp_lit rfl) ?_
    refine V_goto (Cx_L hC) 21 kL_handedIn_10 (by decide) ?_
    refine V_iconst (Cx_L hC) 0 kL_handedIn_21 (by decide) ?_
    refine V_iretL (Cx_L hC) rfl rfl kL_handedIn_22 ⟨(Nat.le_of_ble_eq_true rfl), (Nat.le_of_ble_eq_true rfl)⟩ ?_
    exact Or.inl ⟨hK, rfl, y, rfl, hf⟩
theorem rw_simulate (a : Int32) : K_simulate a = 0 ∨ K_simulate a = 1 := by
  unfold K_simulate; repeat' split
  all_goals first | exact Or.inl rfl | exact Or.inr rfl
def mtL_simulate : Mt := (yL_simulate, cL_simulate, 6, (some .int), 8, 247, 1, 6)
theorem kL_simulate_0 : Dk mtL_simulate 0 (.aload 4) 2 2 := ⟨by decide +kernel, rfl⟩
theorem kL_simulate_2 : Dk mtL_simulate 2 (.iconst 0) 1 3 := ⟨by decide +kernel, rfl⟩
theorem kL_simulate_3 : Dk mtL_simulate 3 (.aload_n 0) 1 4 := ⟨by decide +kernel, rfl⟩
theorem kL_simulate_4 : Dk mtL_simulate 4 (.lload_n 1) 1 5 := ⟨by decide +kernel, rfl⟩
theorem kL_simulate_5 : Dk mtL_simulate 5 (.iload_n 3) 1 6 := ⟨by decide +kernel, rfl⟩
theorem kL_simulate_6 : Dk mtL_simulate 6 (.invokevirtual 87) 3 9 := ⟨by decide +kernel, rfl⟩
theorem kL_simulate_9 : Dk mtL_simulate 9 (.i2l) 1 10 := ⟨by decide +kernel, rfl⟩
theorem kL_simulate_10 : Dk mtL_simulate 10 (.lastore) 1 11 := ⟨by decide +kernel, rfl⟩
theorem kL_simulate_11 : Dk mtL_simulate 11 (.goto 7) 3 14 := ⟨by decide +kernel, rfl⟩
theorem kL_simulate_14 : Dk mtL_simulate 14 (.astore 5) 2 16 := ⟨by decide +kernel, rfl⟩
theorem kL_simulate_16 : Dk mtL_simulate 16 (.iconst 1) 1 17 := ⟨by decide +kernel, rfl⟩
theorem kL_simulate_17 : Dk mtL_simulate 17 (.ireturn) 1 18 := ⟨by decide +kernel, rfl⟩
theorem kL_simulate_18 : Dk mtL_simulate 18 (.iconst 0) 1 19 := ⟨by decide +kernel, rfl⟩
theorem kL_simulate_19 : Dk mtL_simulate 19 (.ireturn) 1 20 := ⟨by decide +kernel, rfl⟩
theorem mkX5_simulate : MkV mtX5_simulate 2 := ⟨List.mem_of_getElem? (i := 961) (by decide +kernel), by decide +kernel, by decide +kernel, by decide +kernel, ⟨by decide +kernel, by decide +kernel, by decide +kernel⟩⟩
theorem lxL_87 : Cond.methodLink RL 87 (mY mtX5_simulate) ∈ lw_tbl := by decide +kernel
set_option maxHeartbeats 4000000 in
set_option maxRecDepth 100000 in
theorem lw_simulate {l : Launch} {w : Wd} {sg : Sg} (hWr : Wr w) (hl0 : l.stackTraces = false) (u : Int64) (a : Int32) {o : Nat} {x : Nat} {g : Gs} (hR : Rel sg (x + 4) g) (hI : Inv g) (hT : Bt sg (x + 22)) : MT l mtL_simulate [(0, 11, 14, 13)] w [vR (some (5, 0, x)), vL u, vI a, vR (some (13, 1, o))] sg (PW o w (K_simulate a) (fun r g2 => r = R_simulate g u (tn a) ∧ Fr (x + 22) sg g2 ∧ Bt g2 (x + 22)) (fun g2 => g2 = sg)) := by
  refine MT_of [some (vR (some (5, 0, x))), some (vL u), none, some (vI a), some (vR (some (13, 1, o))), none] rfl (Nat.le_of_ble_eq_true rfl) (by decide +kernel) ?_
  intro p_ e_ s_ m_ args_ below_ meth_ c_ hC hX hO
  refine V_aload hC kL_simulate_0 rfl ?_
  refine V_iconst hC (0) kL_simulate_2 (by decide) ?_
  refine V_aload_n hC kL_simulate_3 rfl ?_
  refine V_lload_n hC kL_simulate_4 rfl ?_
  refine V_iload_n hC kL_simulate_5 rfl ?_
  refine V_invVX hC hX.1 (cf_simulate hWr hl0 u a hR hI hT) mkX5_simulate lxL_87 kL_simulate_6 (Nat.le_of_ble_eq_true rfl) rfl rfl rfl (Nat.le_of_ble_eq_true rfl) ⟨(Nat.le_of_ble_eq_true rfl), (Nat.le_of_ble_eq_true rfl)⟩ ⟨(Nat.le_of_ble_eq_true rfl), (Nat.le_of_ble_eq_true rfl)⟩ (fun E g9 hp => ?_) (fun r g9 hq => ?_)
  · obtain ⟨hK, hE, hg⟩ := hp
    rcases rw_simulate a with h1 | h1
    · exact absurd h1 hK
    · obtain rfl : E = "java/lang/IllegalArgumentException" := by rw [hE, h1]; decide
      refine VX_cat hC hX [] [] (0, 11, 14, 13) rfl (by simp [xCl]) (fun _ h => absurd h List.not_mem_nil) ⟨by decide, by decide⟩ (by decide) lcl13 rfl kL_simulate_14 (Nat.le_of_ble_eq_true rfl) ?_
      refine V_iconst hC 1 kL_simulate_16 (by decide) ?_
      refine V_iretL hC rfl rfl kL_simulate_17 ⟨(Nat.le_of_ble_eq_true rfl), (Nat.le_of_ble_eq_true rfl)⟩ ?_
      exact Or.inr ⟨hK, by rw [h1], rfl, hg⟩
  · obtain ⟨y, rfl, hK, hf⟩ := hq
    refine V_i2l hC kL_simulate_9 ?_
    refine V_last hC 0 rfl kL_simulate_10 (vp_lit rfl) ?_
    refine V_goto (Cx_L hC) 18 kL_simulate_11 (by decide) ?_
    refine V_iconst (Cx_L hC) 0 kL_simulate_18 (by decide) ?_
    refine V_iretL (Cx_L hC) rfl rfl kL_simulate_19 ⟨(Nat.le_of_ble_eq_true rfl), (Nat.le_of_ble_eq_true rfl)⟩ ?_
    exact Or.inl ⟨hK, rfl, y, rfl, hf⟩
