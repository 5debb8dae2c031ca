-- HOW ct_in fI
-- HOW ct_fails fI
-- HOW ct_of fI
-- HOW ct_ofBoat fI
-- HOW ct_layBoat fV
-- HOW ct_isLight fI
-- HOW ct_isBoat fI
-- HOW ct_isPlace fI
-- HOW ct_bright fI
-- HOW ct_worth fI
-- HOW ct_serves fI
-- HOW ct_best fI
-- HOW ct_sails fV
-- HOW ct_drops fV
-- HOW ct_wished fI
-- HOW ct_hands fV
-- HOW ct_wishes fV
-- HOW ct_finds fV
-- HOW ct_goesOn fV
-- HOW ct_goesTick fV
-- HOW ct_goesBy fI
-- HOW ct_putAside fV
-- HOW ct_takeBack fV
-- HOW ct_isLamp fI
-- HOW ct_addsLight fI
-- HOW ct_actsLight fI
-- HOW ct_addsBoat fI
-- HOW ct_actsBoat fI
-- HOW ct_actsSteer fI
-- HOW ct_canTalk fI
-- HOW ct_actsTalk fI
-- HOW ct_actsLean fI
-- HOW ct_actsDim fI
-- HOW ct_mostOf fI
-- HOW ct_isSetting fI
-- HOW ct_actsSet fI
-- HOW ct_actsTicks fI
-- HOW ct_boatsThat fI
-- HOW ct_servedBy fI
-- HOW ct_begins fV
-- HOW ct_tellsAbout fI
-- HOW ct_about fM
-- HOW ct_lightOf fM
-- HOW ct_boatOf fM
-- HOW ct_brightness fM
-- HOW ct_bestAt fM
-- HOW ct_setting fM
-- HOW ct_saves fV
-- HOW ct_light fM
-- HOW ct_boat fM
-- HOW ct_steer fM
-- HOW ct_talk fM
-- HOW ct_lean fM
-- HOW ct_dim fM
-- HOW ct_set fM
-- HOW ct_ticks fM
-- HOW ct_undo fM
-- HOW ct_save fM
-- HOW ct_restore fM
-- HOW ct_bringsBy fI
-- HOW ct_ifMargin fM
-- HOW ct_held fI
-- HOW ct_room fI
-- HOW ct_dark fI
-- HOW ct_turns fV
-- HOW ct_simulate fM
-- HOW ct_border fM
-- HOW ct_handedIn fM
-- HOW ct_bestMargin fM
-- HOW ct_thrown fI
-- HOW ct_sign fI
-- HOW ct_number fI
-- HOW ct_carriesLight fI
-- HOW ct_carries fI
-- HOW ct_isCommand fI
-- HOW ct_append fM
-- HOW ct_clearText fM
-- HOW ct_readsAll fV
-- HOW ct_errorPosition fI
-- HOW ct_load rI
-- HOW ct_pair fI
-- HOW ct_laysFigures fV
-- HOW ct_succeeds fI
-- HOW ct_runScript rI
-- HOW cl_isPlace fI
-- HOW cl_isSpeed fI
-- HOW cl_isStrength fI
-- HOW cl_isTickCount fI
-- HOW cl_isSetting fI
-- HOW cl_isSlot fI
-- HOW cl_isSettingValue fI
-- HOW cl_shown fI
-- HOW cl_withoutGroups fL
-- HOW cl_lbegin fV
-- HOW cl_lcopy fV
-- HOW cl_bcopy fV
-- HOW cl_lnum fI
-- HOW cl_bnum fI
-- HOW cl_bright fI
-- HOW cl_worth fI
-- HOW cl_bitCount fI
-- HOW cl_servedCount fI
-- HOW cl_takesHandedOn fI
-- HOW cl_takesOthers fI
-- HOW cl_bbegin fV
-- HOW cl_move fV
-- HOW cl_wishFor fV
-- HOW cl_lightR fR
-- HOW cl_lightN fR
-- HOW cl_boatR fR
-- HOW cl_boatN fR
-- HOW cl_setR fI
-- HOW cl_lightAt fR
-- HOW cl_lightAtNo fR
-- HOW cl_boatAt fR
-- HOW cl_boatAtNo fR
-- HOW cl_settingOf fI
-- HOW cl_servedBoats fI
-- HOW cl_talkingBoats fI
-- HOW cl_numberOf fI
-- HOW cl_brightest fI
-- HOW cl_isDark fI
-- HOW cl_freePlaces fI
-- HOW cl_isServing fI
-- HOW cl_isServingAtLeast fI
-- HOW cl_isBoatAt fI
-- HOW cl_lightFault fI
-- HOW cl_boatFault fI
-- HOW cl_steerFault fI
-- HOW cl_dimFault fI
-- HOW cl_leanFault fI
-- HOW cl_talkFault fI
-- HOW cl_putSpeed rI
-- HOW cl_putTalk rI
-- HOW cl_putLeaning rI
-- HOW cl_putStrength rI
-- HOW cl_putSetting rI
-- HOW cl_addLight rI
-- HOW cl_addBoat rI
-- HOW cl_tryLight rI
-- HOW cl_tryBoat rI
-- HOW cl_trySteer rI
-- HOW cl_tryTalk rI
-- HOW cl_tryLean rI
-- HOW cl_tryDim rI
-- HOW cl_trySet rI
-- HOW cl_serve rV
-- HOW cl_lose rV
-- HOW cl_bestWish fI
-- HOW cl_seekKeeper rV
-- HOW cl_ask rV
-- HOW cl_setW fI
-- HOW cl_sail rV
-- HOW cl_pass rV
-- HOW cl_reset rV
-- HOW cl_copyFrom rV
-- HOW cl_stateAt fR
-- HOW cl_slotAt fR
-- HOW cl_hasStates fI
-- HOW cl_mreset rV
-- HOW cl_remember rV
-- HOW cl_takeBack rI
-- HOW cl_isKept fI
-- HOW cl_keep rV
-- HOW cl_bring rV
-- HOW cl_isFull fI
-- HOW cl_add fI
-- HOW cl_empty fI
-- HOW cl_hasMore fI
-- HOW cl_signAt fI
-- HOW cl_number fI
-- HOW cl_formOf fR
-- HOW cl_readNumber fI
-- HOW cl_formY fR
-- HOW cl_formN fR
-- HOW cl_readHead fI
-- HOW cl_readCommand rI
-- HOW cl_errorPlace rI
-- HOW cl_gained fI
-- HOW cl_tryMargin rV
-- HOW cl_until rI
-- HOW cl_dark fI
-- HOW cl_room fI
-- HOW cl_takeTurn rV
-- HOW cl_runCommand rI
-- HOW cl_obey rI
-- HOW cl_throwFault xV
-- HOW cf_about xI
-- HOW cf_lightOf xI
-- HOW cf_boatOf xI
-- HOW cf_brightness xI
-- HOW cf_bestAt xI
-- HOW cf_setting xI
-- HOW cf_light xI
-- HOW cf_boat xI
-- HOW cf_steer xI
-- HOW cf_talk xI
-- HOW cf_lean xI
-- HOW cf_dim xI
-- HOW cf_set xI
-- HOW cf_ticks xI
-- HOW cf_undo xI
-- HOW cf_save xI
-- HOW cf_restore xI
-- HOW cf_append xI
-- HOW cf_clearText fI
-- HOW cf_ifMargin xI
-- HOW cf_handedIn xI
-- HOW cf_errorPosition rI
-- HOW cf_simulate xI
-- HOW cf_border xI
-- HOW cf_bestMargin xI
-- HOW cf_runScript xI
-- HOW cf_load xI
/-! the law's wrappers -/
theorem Cx_L {p : Program} {R : Room} {s : State} {m : MethodId} {args : Array Value} {meth : Method} {c : Code} {t : Mt} {w : Wd} {k j : Nat} {y : Int64} (h : Cx p R s m args meth c t w) : Cx p R s m args meth c t (setL w k j y) := h
/-- 0 and the answer written, or the handler's number -/
def PW (o : Nat) (w : Wd) (K : Int32) (f : Int32 → Sg → Prop) (P : Sg → Prop) : Option VV → Wd → Sg → Prop := fun r w' g2 => (K = 0 ∧ r = some (vI 0) ∧ ∃ y : Int32, w' = setL w o 0 y.toInt64 ∧ f y g2) ∨ (¬ K = 0 ∧ r = some (vI K) ∧ w' = w ∧ P g2)
theorem KA_r (a : Int32) (n : Nat) : K_append a n = 0 ∨ K_append a n = 1 ∨ K_append a n = 2 := by
  unfold K_append; repeat' split
  all_goals first | exact Or.inl rfl | exact Or.inr (Or.inl rfl) | exact Or.inr (Or.inr rfl)
def mtL_append : Mt := (yL_append, cL_append, 4, (some .int), 8, 242, 1, 6)
theorem kL_append_0 : Dk mtL_append 0 (.aload_n 2) 1 1 := ⟨by decide +kernel, rfl⟩
theorem kL_append_1 : Dk mtL_append 1 (.iconst 0) 1 2 := ⟨by decide +kernel, rfl⟩
theorem kL_append_2 : Dk mtL_append 2 (.aload_n 0) 1 3 := ⟨by decide +kernel, rfl⟩
theorem kL_append_3 : Dk mtL_append 3 (.iload_n 1) 1 4 := ⟨by decide +kernel, rfl⟩
theorem kL_append_4 : Dk mtL_append 4 (.invokevirtual 7) 3 7 := ⟨by decide +kernel, rfl⟩
theorem kL_append_7 : Dk mtL_append 7 (.i2l) 1 8 := ⟨by decide +kernel, rfl⟩
theorem kL_append_8 : Dk mtL_append 8 (.lastore) 1 9 := ⟨by decide +kernel, rfl⟩
theorem kL_append_9 : Dk mtL_append 9 (.goto 9) 3 12 := ⟨by decide +kernel, rfl⟩
theorem kL_append_12 : Dk mtL_append 12 (.astore_n 3) 1 13 := ⟨by decide +kernel, rfl⟩
theorem kL_append_13 : Dk mtL_append 13 (.iconst 1) 1 14 := ⟨by decide +kernel, rfl⟩
theorem kL_append_14 : Dk mtL_append 14 (.ireturn) 1 15 := ⟨by decide +kernel, rfl⟩
theorem kL_append_15 : Dk mtL_append 15 (.astore_n 3) 1 16 := ⟨by decide +kernel, rfl⟩
theorem kL_append_16 : Dk mtL_append 16 (.iconst 2) 1 17 := ⟨by decide +kernel, rfl⟩
theorem kL_append_17 : Dk mtL_append 17 (.ireturn) 1 18 := ⟨by decide +kernel, rfl⟩
theorem kL_append_18 : Dk mtL_append 18 (.iconst 0) 1 19 := ⟨by decide +kernel, rfl⟩
theorem kL_append_19 : Dk mtL_append 19 (.ireturn) 1 20 := ⟨by decide +kernel, rfl⟩
theorem mkX5_append : MkV mtX5_append 1 := ⟨List.mem_of_getElem? (i := 393) (by decide +kernel), by decide +kernel, by decide +kernel, by decide +kernel, ⟨by decide +kernel, by decide +kernel, by decide +kernel⟩⟩
theorem lxL_7 : Cond.methodLink RL 7 (mY mtX5_append) ∈ lw_tbl := by decide +kernel
theorem lcl13 : Cond.classLink RL 13 "java/lang/IllegalArgumentException" ∈ lw_tbl := by decide +kernel
theorem lcl15 : Cond.classLink RL 15 "java/lang/IllegalStateException" ∈ lw_tbl := by decide +kernel
set_option maxHeartbeats 4000000 in
set_option maxRecDepth 100000 in
theorem lw_append {l : Launch} {w : Wd} {sg : Sg} (hWr : Wr w) (hl0 : l.stackTraces = false) (a : Int32) {x n o : Nat} {tx : Gs} (hT : TR sg (x + 1) tx n) : MT l mtL_append [(0, 9, 12, 13), (0, 9, 15, 15)] w [vR (some (5, 0, x)), vI a, vR (some (13, 1, o))] sg (PW o w (K_append a n) (fun r g2 => r = nI (n + 1) ∧ n < 120 ∧ g2 = ups (upr sg (x + 1 + 1) (upd (sg (x + 1 + 1)) n a)) (x + 1) 2 (nI (n + 1))) (fun g2 => g2 = sg)) := by
  refine MT_of [some (vR (some (5, 0, x))), some (vI a), some (vR (some (13, 1, o))), none] rfl (Nat.le_of_ble_eq_true rfl) (by decide +kernel) ?_
  intro p_ e_ s_ m_ args_ below_ meth_ c_ hC hX hO
  refine V_aload_n hC kL_append_0 rfl ?_
  refine V_iconst hC (0) kL_append_1 (by decide) ?_
  refine V_aload_n hC kL_append_2 rfl ?_
  refine V_iload_n hC kL_append_3 rfl ?_
  refine V_invVX hC hX.1 (cf_append hWr hl0 a hT) mkX5_append lxL_7 kL_append_4 (Nat.le_of_ble_eq_true rfl) rfl rfl rfl (Nat.le_of_ble_eq_true rfl) ⟨(Nat.le_of_ble_eq_true rfl), (Nat.le_of_ble_eq_true rfl)⟩ ⟨(Nat.le_of_ble_eq_true rfl), (Nat.le_of_ble_eq_true rfl)⟩ (fun E g9 hp => ?_) (fun r g9 hq => ?_)
  · obtain ⟨hK, hE, hg⟩ := hp
    rcases KA_r a n with h1 | h1 | h1
    · exact absurd h1 hK
    · obtain rfl : E = "java/lang/IllegalArgumentException" := by rw [hE, h1]; decide
      refine VX_catn hC hX [] [(0, 9, 15, 15)] (0, 9, 12, 13) rfl (by simp [xCl]) (fun _ h => absurd h List.not_mem_nil) ⟨by decide, by decide⟩ (by decide) lcl13 rfl kL_append_12 (Nat.le_of_ble_eq_true rfl) ?_
      refine V_iconst hC 1 kL_append_13 (by decide) ?_
      refine V_iretL hC rfl rfl kL_append_14 ⟨(Nat.le_of_ble_eq_true rfl), (Nat.le_of_ble_eq_true rfl)⟩ ?_
      exact Or.inr ⟨hK, by rw [h1], rfl, hg⟩
    · obtain rfl : E = "java/lang/IllegalStateException" := by rw [hE, h1]; decide
      refine VX_catn hC hX [(0, 9, 12, 13)] [] (0, 9, 15, 15) rfl (by simp [xCl]) (List.forall_mem_cons.mpr ⟨⟨by decide, "java/lang/IllegalArgumentException", by simp [xCl], lcl13, by decide⟩, (fun _ h => absurd h List.not_mem_nil)⟩) ⟨by decide, by decide⟩ (by decide) lcl15 rfl kL_append_15 (Nat.le_of_ble_eq_true rfl) ?_
      refine V_iconst hC 2 kL_append_16 (by decide) ?_
      refine V_iretL hC rfl rfl kL_append_17 ⟨(Nat.le_of_ble_eq_true rfl), (Nat.le_of_ble_eq_true rfl)⟩ ?_
      exact Or.inr ⟨hK, by rw [h1], rfl, hg⟩
  · obtain ⟨y, rfl, hK, hf⟩ := hq
    refine V_i2l hC kL_append_7 ?_
    refine V_last hC 0 rfl kL_append_8 (vp_lit rfl) ?_
    refine V_goto (Cx_L hC) 18 kL_append_9 (by decide) ?_
    refine V_iconst (Cx_L hC) 0 kL_append_18 (by decide) ?_
    refine V_iretL (Cx_L hC) rfl rfl kL_append_19 ⟨(Nat.le_of_ble_eq_true rfl), (Nat.le_of_ble_eq_true rfl)⟩ ?_
    exact Or.inl ⟨hK, rfl, y, rfl, hf⟩
theorem rw_about (a : Int32) : K_about a = 0 ∨ K_about a = 1 := by
  unfold K_about; repeat' split
  all_goals first | exact Or.inl rfl | exact Or.inr rfl
def mtL_about : Mt := (yL_about, cL_about, 4, (some .int), 8, 242, 1, 6)
theorem kL_about_0 : Dk mtL_about 0 (.aload_n 2) 1 1 := ⟨by decide +kernel, rfl⟩
theorem kL_about_1 : Dk mtL_about 1 (.iconst 0) 1 2 := ⟨by decide +kernel, rfl⟩
theorem kL_about_2 : Dk mtL_about 2 (.aload_n 0) 1 3 := ⟨by decide +kernel, rfl⟩
theorem kL_about_3 : Dk mtL_about 3 (.iload_n 1) 1 4 := ⟨by decide +kernel, rfl⟩
theorem kL_about_4 : Dk mtL_about 4 (.invokevirtual 21) 3 7 := ⟨by decide +kernel, rfl⟩
theorem kL_about_7 : Dk mtL_about 7 (.i2l) 1 8 := ⟨by decide +kernel, rfl⟩
theorem kL_about_8 : Dk mtL_about 8 (.lastore) 1 9 := ⟨by decide +kernel, rfl⟩
theorem kL_about_9 : Dk mtL_about 9 (.goto 6) 3 12 := ⟨by decide +kernel, rfl⟩
theorem kL_about_12 : Dk mtL_about 12 (.astore_n 3) 1 13 := ⟨by decide +kernel, rfl⟩
theorem kL_about_13 : Dk mtL_about 13 (.iconst 1) 1 14 := ⟨by decide +kernel, rfl⟩
theorem kL_about_14 : Dk mtL_about 14 (.ireturn) 1 15 := ⟨by decide +kernel, rfl⟩
theorem kL_about_15 : Dk mtL_about 15 (.iconst 0) 1 16 := ⟨by decide +kernel, rfl⟩
theorem kL_about_16 : Dk mtL_about 16 (.ireturn) 1 17 := ⟨by decide +kernel, rfl⟩
theorem mkX5_about : MkV mtX5_about 1 := ⟨List.mem_of_getElem? (i := 651) (by decide +kernel), by decide +kernel, by decide +kernel, by decide +kernel, ⟨by decide +kernel, by decide +kernel, by decide +kernel⟩⟩
theorem lxL_21 : Cond.methodLink RL 21 (mY mtX5_about) ∈ lw_tbl := by decide +kernel
set_option maxHeartbeats 4000000 in
set_option maxRecDepth 100000 in
theorem lw_about {l : Launch} {w : Wd} {sg : Sg} (hWr : Wr w) (hl0 : l.stackTraces = false) (a : Int32) {o : Nat} {x : Nat} {g : Gs} (hR : Rel sg (x + 4) g) (hI : Inv g) : MT l mtL_about [(0, 9, 12, 13)] w [vR (some (5, 0, x)), vI a, vR (some (13, 1, o))] sg (PW o w (K_about a) (fun r g2 => r = F_tells g a ∧ g2 = sg) (fun g2 => g2 = sg)) := by
  refine MT_of [some (vR (some (5, 0, x))), some (vI a), some (vR (some (13, 1, o))), none] rfl (Nat.le_of_ble_eq_true rfl) (by decide +kernel) ?_
  intro p_ e_ s_ m_ args_ below_ meth_ c_ hC hX hO
  refine V_aload_n hC kL_about_0 rfl ?_
  refine V_iconst hC (0) kL_about_1 (by decide) ?_
  refine V_aload_n hC kL_about_2 rfl ?_
  refine V_iload_n hC kL_about_3 rfl ?_
  refine V_invVX hC hX.1 (cf_about hWr hl0 a hR hI) mkX5_about lxL_21 kL_about_4 (Nat.le_of_ble_eq_true rfl) rfl rfl rfl (Nat.le_of_ble_eq_true rfl) ⟨(Nat.le_of_ble_eq_true rfl), (Nat.le_of_ble_eq_true rfl)⟩ ⟨(Nat.le_of_ble_eq_true rfl), (Nat.le_of_ble_eq_true rfl)⟩ (fun E g9 hp => ?_) (fun r g9 hq => ?_)
  · obtain ⟨hK, hE, hg⟩ := hp
    rcases rw_about a with h1 | h1
    · exact absurd h1 hK
    · obtain rfl : E = "java/lang/IllegalArgumentException" := by rw [hE, h1]; decide
      refine VX_catn hC hX [] [] (0, 9, 12, 13) rfl (by simp [xCl]) (fun _ h => absurd h List.not_mem_nil) ⟨by decide, by decide⟩ (by decide) lcl13 rfl kL_about_12 (Nat.le_of_ble_eq_true rfl) ?_
      refine V_iconst hC 1 kL_about_13 (by decide) ?_
      refine V_iretL hC rfl rfl kL_about_14 ⟨(Nat.le_of_ble_eq_true rfl), (Nat.le_of_ble_eq_true rfl)⟩ ?_
      exact Or.inr ⟨hK, by rw [h1], rfl, hg⟩
  · obtain ⟨y, rfl, hK, hf⟩ := hq
    refine V_i2l hC kL_about_7 ?_
    refine V_last hC 0 rfl kL_about_8 (vp_lit rfl) ?_
    refine V_goto (Cx_L hC) 15 kL_about_9 (by decide) ?_
    refine V_iconst (Cx_L hC) 0 kL_about_15 (by decide) ?_
    refine V_iretL (Cx_L hC) rfl rfl kL_about_16 ⟨(Nat.le_of_ble_eq_true rfl), (Nat.le_of_ble_eq_true rfl)⟩ ?_
    exact Or.inl ⟨hK, rfl, y, rfl, hf⟩
theorem rw_lightOf (g : Gs) (a b : Int32) : K_lightOf g a b = 0 ∨ K_lightOf g a b = 1 ∨ K_lightOf g a b = 2 := by
  unfold K_lightOf; repeat' split
  all_goals first | exact Or.inl rfl | exact Or.inr (Or.inl rfl) | exact Or.inr (Or.inr rfl)
def mtL_lightOf : Mt := (yL_lightOf, cL_lightOf, 5, (some .int), 8, 244, 1, 6)
theorem kL_lightOf_0 : Dk mtL_lightOf 0 (.aload_n 3) 1 1 := ⟨by decide +kernel, rfl⟩
theorem kL_lightOf_1 : Dk mtL_lightOf 1 (.iconst 0) 1 2 := ⟨by decide +kernel, rfl⟩
theorem kL_lightOf_2 : Dk mtL_lightOf 2 (.aload_n 0) 1 3 := ⟨by decide +kernel, rfl⟩
theorem kL_lightOf_3 : Dk mtL_lightOf 3 (.iload_n 1) 1 4 := ⟨by decide +kernel, rfl⟩
theorem kL_lightOf_4 : Dk mtL_lightOf 4 (.iload_n 2) 1 5 := ⟨by decide +kernel, rfl⟩
theorem kL_lightOf_5 : Dk mtL_lightOf 5 (.invokevirtual 24) 3 8 := ⟨by decide +kernel, rfl⟩
theorem kL_lightOf_8 : Dk mtL_lightOf 8 (.i2l) 1 9 := ⟨by decide +kernel, rfl⟩
theorem kL_lightOf_9 : Dk mtL_lightOf 9 (.lastore) 1 10 := ⟨by decide +kernel, rfl⟩
theorem kL_lightOf_10 : Dk mtL_lightOf 10 (.goto 11) 3 13 := ⟨by decide +kernel, rfl⟩
theorem kL_lightOf_13 : Dk mtL_lightOf 13 (.astore 4) 2 15 := ⟨by decide +kernel, rfl⟩
theorem kL_lightOf_15 : Dk mtL_lightOf 15 (.iconst 1) 1 16 := ⟨by decide +kernel, rfl⟩
theorem kL_lightOf_16 : Dk mtL_lightOf 16 (.ireturn) 1 17 := ⟨by decide +kernel, rfl⟩
theorem kL_lightOf_17 : Dk mtL_lightOf 17 (.astore 4) 2 19 := ⟨by decide +kernel, rfl⟩
theorem kL_lightOf_19 : Dk mtL_lightOf 19 (.iconst 2) 1 20 := ⟨by decide +kernel, rfl⟩
theorem kL_lightOf_20 : Dk mtL_lightOf 20 (.ireturn) 1 21 := ⟨by decide +kernel, rfl⟩
theorem kL_lightOf_21 : Dk mtL_lightOf 21 (.iconst 0) 1 22 := ⟨by decide +kernel, rfl⟩
theorem kL_lightOf_22 : Dk mtL_lightOf 22 (.ireturn) 1 23 := ⟨by decide +kernel, rfl⟩
theorem mkX5_lightOf : MkV mtX5_lightOf 2 := ⟨List.mem_of_getElem? (i := 672) (by decide +kernel), by decide +kernel, by decide +kernel, by decide +kernel, ⟨by decide +kernel, by decide +kernel, by decide +kernel⟩⟩
theorem lxL_24 : Cond.methodLink RL 24 (mY mtX5_lightOf) ∈ lw_tbl := by decide +kernel
theorem lcl28 : Cond.classLink RL 28 "java/lang/IndexOutOfBoundsException" ∈ lw_tbl := by decide +kernel
set_option maxHeartbeats 4000000 in
set_option maxRecDepth 100000 in
theorem lw_lightOf {l : Launch} {w : Wd} {sg : Sg} (hWr : Wr w) (hl0 : l.stackTraces = false) (a b : Int32) {o : Nat} {x : Nat} {g : Gs} (hR : Rel sg (x + 4) g) (hI : Inv g) : MT l mtL_lightOf [(0, 10, 13, 28), (0, 10, 17, 13)] w [vR (some (5, 0, x)), vI a, vI b, vR (some (13, 1, o))] sg (PW o w (K_lightOf g a b) (fun r g2 => r = R_lightOf g a b ∧ g2 = sg) (fun g2 => g2 = sg)) := by
  refine MT_of [some (vR (some (5, 0, x))), some (vI a), some (vI b), some (vR (some (13, 1, o))), none] rfl (Nat.le_of_ble_eq_true rfl) (by decide +kernel) ?_
  intro p_ e_ s_ m_ args_ below_ meth_ c_ hC hX hO
  refine V_aload_n hC kL_lightOf_0 rfl ?_
  refine V_iconst hC (0) kL_lightOf_1 (by decide) ?_
  refine V_aload_n hC kL_lightOf_2 rfl ?_
  refine V_iload_n hC kL_lightOf_3 rfl ?_
  refine V_iload_n hC kL_lightOf_4 rfl ?_
  refine V_invVX hC hX.1 (cf_lightOf hWr hl0 a b hR hI) mkX5_lightOf lxL_24 kL_lightOf_5 (Nat.le_of_ble_eq_true rfl) rfl rfl rfl (Nat.le_of_ble_eq_true rfl) ⟨(Nat.le_of_ble_eq_true rfl), (Nat.le_of_ble_eq_true rfl)⟩ ⟨(Nat.le_of_ble_eq_true rfl), (Nat.le_of_ble_eq_true rfl)⟩ (fun E g9 hp => ?_) (fun r g9 hq => ?_)
  · obtain ⟨hK, hE, hg⟩ := hp
    rcases rw_lightOf g a b with h1 | h1 | h1
    · exact absurd h1 hK
    · obtain rfl : E = "java/lang/IndexOutOfBoundsException" := by rw [hE, h1]; decide
      refine VX_cat hC hX [] [(0, 10, 17, 13)] (0, 10, 13, 28) rfl (by simp [xCl]) (fun _ h => absurd h List.not_mem_nil) ⟨by decide, by decide⟩ (by decide) lcl28 rfl kL_lightOf_13 (Nat.le_of_ble_eq_true rfl) ?_
      refine V_iconst hC 1 kL_lightOf_15 (by decide) ?_
      refine V_iretL hC rfl rfl kL_lightOf_16 ⟨(Nat.le_of_ble_eq_true rfl), (Nat.le_of_ble_eq_true rfl)⟩ ?_
      exact Or.inr ⟨hK, by rw [h1], rfl, hg⟩
    · obtain rfl : E = "java/lang/IllegalArgumentException" := by rw [hE, h1]; decide
      refine VX_cat hC hX [(0, 10, 13, 28)] [] (0, 10, 17, 13) rfl (by simp [xCl]) (List.forall_mem_cons.mpr ⟨⟨by decide, "java/lang/IndexOutOfBoundsException", by simp [xCl], lcl28, by decide⟩, (fun _ h => absurd h List.not_mem_nil)⟩) ⟨by decide, by decide⟩ (by decide) lcl13 rfl kL_lightOf_17 (Nat.le_of_ble_eq_true rfl) ?_
      refine V_iconst hC 2 kL_lightOf_19 (by decide) ?_
      refine V_iretL hC rfl rfl kL_lightOf_20 ⟨(Nat.le_of_ble_eq_true rfl), (Nat.le_of_ble_eq_true rfl)⟩ ?_
      exact Or.inr ⟨hK, by rw [h1], rfl, hg⟩
  · obtain ⟨y, rfl, hK, hf⟩ := hq
    refine V_i2l hC kL_lightOf_8 ?_
    refine V_last hC 0 rfl kL_lightOf_9 (vp_lit rfl) ?_
    refine V_goto (Cx_L hC) 21 kL_lightOf_10 (by decide) ?_
    refine V_iconst (Cx_L hC) 0 kL_lightOf_21 (by decide) ?_
    refine V_iretL (Cx_L hC) rfl rfl kL_lightOf_22 ⟨(Nat.le_of_ble_eq_true rfl), (Nat.le_of_ble_eq_true rfl)⟩ ?_
    exact Or.inl ⟨hK, rfl, y, rfl, hf⟩
theorem rw_boatOf (g : Gs) (a b : Int32) : K_boatOf g a b = 0 ∨ K_boatOf g a b = 1 ∨ K_boatOf g a b = 2 := by
  unfold K_boatOf; repeat' split
  all_goals first | exact Or.inl rfl | exact Or.inr (Or.inl rfl) | exact Or.inr (Or.inr rfl)
def mtL_boatOf : Mt := (yL_boatOf, cL_boatOf, 5, (some .int), 8, 244, 1, 6)
theorem kL_boatOf_0 : Dk mtL_boatOf 0 (.aload_n 3) 1 1 := ⟨by decide +kernel, rfl⟩
theorem kL_boatOf_1 : Dk mtL_boatOf 1 (.iconst 0) 1 2 := ⟨by decide +kernel, rfl⟩
theorem kL_boatOf_2 : Dk mtL_boatOf 2 (.aload_n 0) 1 3 := ⟨by decide +kernel, rfl⟩
theorem kL_boatOf_3 : Dk mtL_boatOf 3 (.iload_n 1) 1 4 := ⟨by decide +kernel, rfl⟩
theorem kL_boatOf_4 : Dk mtL_boatOf 4 (.iload_n 2) 1 5 := ⟨by decide +kernel, rfl⟩
theorem kL_boatOf_5 : Dk mtL_boatOf 5 (.invokevirtual 30) 3 8 := ⟨by decide +kernel, rfl⟩
theorem kL_boatOf_8 : Dk mtL_boatOf 8 (.i2l) 1 9 := ⟨by decide +kernel, rfl⟩
theorem kL_boatOf_9 : Dk mtL_boatOf 9 (.lastore) 1 10 := ⟨by decide +kernel, rfl⟩
theorem kL_boatOf_10 : Dk mtL_boatOf 10 (.goto 11) 3 13 := ⟨by decide +kernel, rfl⟩
theorem kL_boatOf_13 : Dk mtL_boatOf 13 (.astore 4) 2 15 := ⟨by decide +kernel, rfl⟩
theorem kL_boatOf_15 : Dk mtL_boatOf 15 (.iconst 1) 1 16 := ⟨by decide +kernel, rfl⟩
theorem kL_boatOf_16 : Dk mtL_boatOf 16 (.ireturn) 1 17 := ⟨by decide +kernel, rfl⟩
theorem kL_boatOf_17 : Dk mtL_boatOf 17 (.astore 4) 2 19 := ⟨by decide +kernel, rfl⟩
theorem kL_boatOf_19 : Dk mtL_boatOf 19 (.iconst 2) 1 20 := ⟨by decide +kernel, rfl⟩
theorem kL_boatOf_20 : Dk mtL_boatOf 20 (.ireturn) 1 21 := ⟨by decide +kernel, rfl⟩
theorem kL_boatOf_21 : Dk mtL_boatOf 21 (.iconst 0) 1 22 := ⟨by decide +kernel, rfl⟩
theorem kL_boatOf_22 : Dk mtL_boatOf 22 (.ireturn) 1 23 := ⟨by decide +kernel, rfl⟩
theorem mkX5_boatOf : MkV mtX5_boatOf 2 := ⟨List.mem_of_getElem? (i := 701) (by decide +kernel), by decide +kernel, by decide +kernel, by decide +kernel, ⟨by decide +kernel, by decide +kernel, by decide +kernel⟩⟩
theorem lxL_30 : Cond.methodLink RL 30 (mY mtX5_boatOf) ∈ lw_tbl := by decide +kernel
set_option maxHeartbeats 4000000 in
set_option maxRecDepth 100000 in
theorem lw_boatOf {l : Launch} {w : Wd} {sg : Sg} (hWr : Wr w) (hl0 : l.stackTraces = false) (a b : Int32) {o : Nat} {x : Nat} {g : Gs} (hR : Rel sg (x + 4) g) (hI : Inv g) : MT l mtL_boatOf [(0, 10, 13, 28), (0, 10, 17, 13)] w [vR (some (5, 0, x)), vI a, vI b, vR (some (13, 1, o))] sg (PW o w (K_boatOf g a b) (fun r g2 => r = R_boatOf g a b ∧ g2 = sg) (fun g2 => g2 = sg)) := by
  refine MT_of [some (vR (some (5, 0, x))), some (vI a), some (vI b), some (vR (some (13, 1, o))), none] rfl (Nat.le_of_ble_eq_true rfl) (by decide +kernel) ?_
  intro p_ e_ s_ m_ args_ below_ meth_ c_ hC hX hO
  refine V_aload_n hC kL_boatOf_0 rfl ?_
  refine V_iconst hC (0) kL_boatOf_1 (by decide) ?_
  refine V_aload_n hC kL_boatOf_2 rfl ?_
  refine V_iload_n hC kL_boatOf_3 rfl ?_
  refine V_iload_n hC kL_boatOf_4 rfl ?_
  refine V_invVX hC hX.1 (cf_boatOf hWr hl0 a b hR hI) mkX5_boatOf lxL_30 kL_boatOf_5 (Nat.le_of_ble_eq_true rfl) rfl rfl rfl (Nat.le_of_ble_eq_true rfl) ⟨(Nat.le_of_ble_eq_true rfl), (Nat.le_of_ble_eq_true rfl)⟩ ⟨(Nat.le_of_ble_eq_true rfl), (Nat.le_of_ble_eq_true rfl)⟩ (fun E g9 hp => ?_) (fun r g9 hq => ?_)
  · obtain ⟨hK, hE, hg⟩ := hp
    rcases rw_boatOf g a b with h1 | h1 | h1
    · exact absurd h1 hK
    · obtain rfl : E = "java/lang/IndexOutOfBoundsException" := by rw [hE, h1]; decide
      refine VX_cat hC hX [] [(0, 10, 17, 13)] (0, 10, 13, 28) rfl (by simp [xCl]) (fun _ h => absurd h List.not_mem_nil) ⟨by decide, by decide⟩ (by decide) lcl28 rfl kL_boatOf_13 (Nat.le_of_ble_eq_true rfl) ?_
      refine V_iconst hC 1 kL_boatOf_15 (by decide) ?_
      refine V_iretL hC rfl rfl kL_boatOf_16 ⟨(Nat.le_of_ble_eq_true rfl), (Nat.le_of_ble_eq_true rfl)⟩ ?_
      exact Or.inr ⟨hK, by rw [h1], rfl, hg⟩
    · obtain rfl : E = "java/lang/IllegalArgumentException" := by rw [hE, h1]; decide
      refine VX_cat hC hX [(0, 10, 13, 28)] [] (0, 10, 17, 13) rfl (by simp [xCl]) (List.forall_mem_cons.mpr ⟨⟨by decide, "java/lang/IndexOutOfBoundsException", by simp [xCl], lcl28, by decide⟩, (fun _ h => absurd h List.not_mem_nil)⟩) ⟨by decide, by decide⟩ (by decide) lcl13 rfl kL_boatOf_17 (Nat.le_of_ble_eq_true rfl) ?_
      refine V_iconst hC 2 kL_boatOf_19 (by decide) ?_
      refine V_iretL hC rfl rfl kL_boatOf_20 ⟨(Nat.le_of_ble_eq_true rfl), (Nat.le_of_ble_eq_true rfl)⟩ ?_
      exact Or.inr ⟨hK, by rw [h1], rfl, hg⟩
  · obtain ⟨y, rfl, hK, hf⟩ := hq
    refine V_i2l hC kL_boatOf_8 ?_
    refine V_last hC 0 rfl kL_boatOf_9 (vp_lit rfl) ?_
    refine V_goto (Cx_L hC) 21 kL_boatOf_10 (by decide) ?_
    refine V_iconst (Cx_L hC) 0 kL_boatOf_21 (by decide) ?_
    refine V_iretL (Cx_L hC) rfl rfl kL_boatOf_22 ⟨(Nat.le_of_ble_eq_true rfl), (Nat.le_of_ble_eq_true rfl)⟩ ?_
    exact Or.inl ⟨hK, rfl, y, rfl, hf⟩
theorem rw_brightness (g : Gs) (a b : Int32) : K_brightness g a b = 0 ∨ K_brightness g a b = 1 := by
  unfold K_brightness; repeat' split
  all_goals first | exact Or.inl rfl | exact Or.inr rfl
def mtL_brightness : Mt := (yL_brightness, cL_brightness, 5, (some .int), 8, 244, 1, 6)
theorem kL_brightness_0 : Dk mtL_brightness 0 (.aload_n 3) 1 1 := ⟨by decide +kernel, rfl⟩
theorem kL_brightness_1 : Dk mtL_brightness 1 (.iconst 0) 1 2 := ⟨by decide +kernel, rfl⟩
theorem kL_brightness_2 : Dk mtL_brightness 2 (.aload_n 0) 1 3 := ⟨by decide +kernel, rfl⟩
theorem kL_brightness_3 : Dk mtL_brightness 3 (.iload_n 1) 1 4 := ⟨by decide +kernel, rfl⟩
theorem kL_brightness_4 : Dk mtL_brightness 4 (.iload_n 2) 1 5 := ⟨by decide +kernel, rfl⟩
theorem kL_brightness_5 : Dk mtL_brightness 5 (.invokevirtual 33) 3 8 := ⟨by decide +kernel, rfl⟩
theorem kL_brightness_8 : Dk mtL_brightness 8 (.i2l) 1 9 := ⟨by decide +kernel, rfl⟩
theorem kL_brightness_9 : Dk mtL_brightness 9 (.lastore) 1 10 := ⟨by decide +kernel, rfl⟩
theorem kL_brightness_10 : Dk mtL_brightness 10 (.goto 7) 3 13 := ⟨by decide +kernel, rfl⟩
theorem kL_brightness_13 : Dk mtL_brightness 13 (.astore 4) 2 15 := ⟨by decide +kernel, rfl⟩
theorem kL_brightness_15 : Dk mtL_brightness 15 (.iconst 1) 1 16 := ⟨by decide +kernel, rfl⟩
theorem kL_brightness_16 : Dk mtL_brightness 16 (.ireturn) 1 17 := ⟨by decide +kernel, rfl⟩
theorem kL_brightness_17 : Dk mtL_brightness 17 (.iconst 0) 1 18 := ⟨by decide +kernel, rfl⟩
theorem kL_brightness_18 : Dk mtL_brightness 18 (.ireturn) 1 19 := ⟨by decide +kernel, rfl⟩
theorem mkX5_brightness : MkV mtX5_brightness 2 := ⟨List.mem_of_getElem? (i := 714) (by decide +kernel), by decide +kernel, by decide +kernel, by decide +kernel, ⟨by decide +kernel, by decide +kernel, by decide +kernel⟩⟩
theorem lxL_33 : Cond.methodLink RL 33 (mY mtX5_brightness) ∈ lw_tbl := by decide +kernel
set_option maxHeartbeats 4000000 in
set_option maxRecDepth 100000 in
theorem lw_brightness {l : Launch} {w : Wd} {sg : Sg} (hWr : Wr w) (hl0 : l.stackTraces = false) (a b : Int32) {o : Nat} {x : Nat} {g : Gs} (hR : Rel sg (x + 4) g) (hI : Inv g) : MT l mtL_brightness [(0, 10, 13, 28)] w [vR (some (5, 0, x)), vI a, vI b, vR (some (13, 1, o))] sg (PW o w (K_brightness g a b) (fun r g2 => r = F_bright g a b ∧ g2 = sg) (fun g2 => g2 = sg)) := by
  refine MT_of [some (vR (some (5, 0, x))), some (vI a), some (vI b), some (vR (some (13, 1, o))), none] rfl (Nat.le_of_ble_eq_true rfl) (by decide +kernel) ?_
  intro p_ e_ s_ m_ args_ below_ meth_ c_ hC hX hO
  refine V_aload_n hC kL_brightness_0 rfl ?_
  refine V_iconst hC (0) kL_brightness_1 (by decide) ?_
  refine V_aload_n hC kL_brightness_2 rfl ?_
  refine V_iload_n hC kL_brightness_3 rfl ?_
  refine V_iload_n hC kL_brightness_4 rfl ?_
  refine V_invVX hC hX.1 (cf_brightness hWr hl0 a b hR hI) mkX5_brightness lxL_33 kL_brightness_5 (Nat.le_of_ble_eq_true rfl) rfl rfl rfl (Nat.le_of_ble_eq_true rfl) ⟨(Nat.le_of_ble_eq_true rfl), (Nat.le_of_ble_eq_true rfl)⟩ ⟨(Nat.le_of_ble_eq_true rfl), (Nat.le_of_ble_eq_true rfl)⟩ (fun E g9 hp => ?_) (fun r g9 hq => ?_)
  · obtain ⟨hK, hE, hg⟩ := hp
    rcases rw_brightness g a b with h1 | h1
    · exact absurd h1 hK
    · obtain rfl : E = "java/lang/IndexOutOfBoundsException" := by rw [hE, h1]; decide
      refine VX_cat hC hX [] [] (0, 10, 13, 28) rfl (by simp [xCl]) (fun _ h => absurd h List.not_mem_nil) ⟨by decide, by decide⟩ (by decide) lcl28 rfl kL_brightness_13 (Nat.le_of_ble_eq_true rfl) ?_
      refine V_iconst hC 1 kL_brightness_15 (by decide) ?_
      refine V_iretL hC rfl rfl kL_brightness_16 ⟨(Nat.le_of_ble_eq_true rfl), (Nat.le_of_ble_eq_true rfl)⟩ ?_
      exact Or.inr ⟨hK, by rw [h1], rfl, hg⟩
  · obtain ⟨y, rfl, hK, hf⟩ := hq
    refine V_i2l hC kL_brightness_8 ?_
    refine V_last hC 0 rfl kL_brightness_9 (vp_lit rfl) ?_
    refine V_goto (Cx_L hC) 17 kL_brightness_10 (by decide) ?_
    refine V_iconst (Cx_L hC) 0 kL_brightness_17 (by decide) ?_
    refine V_iretL (Cx_L hC) rfl rfl kL_brightness_18 ⟨(Nat.le_of_ble_eq_true rfl), (Nat.le_of_ble_eq_true rfl)⟩ ?_
    exact Or.inl ⟨hK, rfl, y, rfl, hf⟩
theorem rw_bestAt (a b : Int32) : K_bestAt a b = 0 ∨ K_bestAt a b = 1 ∨ K_bestAt a b = 2 := by
  unfold K_bestAt; repeat' split
  all_goals first | exact Or.inl rfl | exact Or.inr (Or.inl rfl) | exact Or.inr (Or.inr rfl)
def mtL_bestAt : Mt := (yL_bestAt, cL_bestAt, 5, (some .int), 8, 245, 1, 6)
theorem kL_bestAt_0 : Dk mtL_bestAt 0 (.aload_n 3) 1 1 := ⟨by decide +kernel, rfl⟩
theorem kL_bestAt_1 : Dk mtL_bestAt 1 (.iconst 0) 1 2 := ⟨by decide +kernel, rfl⟩
theorem kL_bestAt_2 : Dk mtL_bestAt 2 (.aload_n 0) 1 3 := ⟨by decide +kernel, rfl⟩
theorem kL_bestAt_3 : Dk mtL_bestAt 3 (.iload_n 1) 1 4 := ⟨by decide +kernel, rfl⟩
theorem kL_bestAt_4 : Dk mtL_bestAt 4 (.iload_n 2) 1 5 := ⟨by decide +kernel, rfl⟩
theorem kL_bestAt_5 : Dk mtL_bestAt 5 (.invokevirtual 36) 3 8 := ⟨by decide +kernel, rfl⟩
theorem kL_bestAt_8 : Dk mtL_bestAt 8 (.i2l) 1 9 := ⟨by decide +kernel, rfl⟩
theorem kL_bestAt_9 : Dk mtL_bestAt 9 (.lastore) 1 10 := ⟨by decide +kernel, rfl⟩
theorem kL_bestAt_10 : Dk mtL_bestAt 10 (.goto 11) 3 13 := ⟨by decide +kernel, rfl⟩
theorem kL_bestAt_13 : Dk mtL_bestAt 13 (.astore 4) 2 15 := ⟨by decide +kernel, rfl⟩
theorem kL_bestAt_15 : Dk mtL_bestAt 15 (.iconst 1) 1 16 := ⟨by decide +kernel, rfl⟩
theorem kL_bestAt_16 : Dk mtL_bestAt 16 (.ireturn) 1 17 := ⟨by decide +kernel, rfl⟩
theorem kL_bestAt_17 : Dk mtL_bestAt 17 (.astore 4) 2 19 := ⟨by decide +kernel, rfl⟩
theorem kL_bestAt_19 : Dk mtL_bestAt 19 (.iconst 2) 1 20 := ⟨by decide +kernel, rfl⟩
theorem kL_bestAt_20 : Dk mtL_bestAt 20 (.ireturn) 1 21 := ⟨by decide +kernel, rfl⟩
theorem kL_bestAt_21 : Dk mtL_bestAt 21 (.iconst 0) 1 22 := ⟨by decide +kernel, rfl⟩
theorem kL_bestAt_22 : Dk mtL_bestAt 22 (.ireturn) 1 23 := ⟨by decide +kernel, rfl⟩
theorem mkX5_bestAt : MkV mtX5_bestAt 2 := ⟨List.mem_of_getElem? (i := 724) (by decide +kernel), by decide +kernel, by decide +kernel, by decide +kernel, ⟨by decide +kernel, by decide +kernel, by decide +kernel⟩⟩
theorem lxL_36 : Cond.methodLink RL 36 (mY mtX5_bestAt) ∈ lw_tbl := by decide +kernel
set_option maxHeartbeats 4000000 in
set_option maxRecDepth 100000 in
theorem lw_bestAt {l : Launch} {w : Wd} {sg : Sg} (hWr : Wr w) (hl0 : l.stackTraces = false) (a b : Int32) {o : Nat} {x : Nat} {g : Gs} (hR : Rel sg (x + 4) g) (hI : Inv g) : MT l mtL_bestAt [(0, 10, 13, 28), (0, 10, 17, 13)] w [vR (some (5, 0, x)), vI a, vI b, vR (some (13, 1, o))] sg (PW o w (K_bestAt a b) (fun r g2 => r = R_bestAt g a b ∧ g2 = sg) (fun g2 => g2 = sg)) := by
  refine MT_of [some (vR (some (5, 0, x))), some (vI a), some (vI b), some (vR (some (13, 1, o))), none] rfl (Nat.le_of_ble_eq_true rfl) (by decide +kernel) ?_
  intro p_ e_ s_ m_ args_ below_ meth_ c_ hC hX hO
  refine V_aload_n hC kL_bestAt_0 rfl ?_
  refine V_iconst hC (0) kL_bestAt_1 (by decide) ?_
  refine V_aload_n hC kL_bestAt_2 rfl ?_
  refine V_iload_n hC kL_bestAt_3 rfl ?_
  refine V_iload_n hC kL_bestAt_4 rfl ?_
  refine V_invVX hC hX.1 (cf_bestAt hWr hl0 a b hR hI) mkX5_bestAt lxL_36 kL_bestAt_5 (Nat.le_of_ble_eq_true rfl) rfl rfl rfl (Nat.le_of_ble_eq_true rfl) ⟨(Nat.le_of_ble_eq_true rfl), (Nat.le_of_ble_eq_true rfl)⟩ ⟨(Nat.le_of_ble_eq_true rfl), (Nat.le_of_ble_eq_true rfl)⟩ (fun E g9 hp => ?_) (fun r g9 hq => ?_)
  · obtain ⟨hK, hE, hg⟩ := hp
    rcases rw_bestAt a b with h1 | h1 | h1
    · exact absurd h1 hK
    · obtain rfl : E = "java/lang/IndexOutOfBoundsException" := by rw [hE, h1]; decide
      refine VX_cat hC hX [] [(0, 10, 17, 13)] (0, 10, 13, 28) rfl (by simp [xCl]) (fun _ h => absurd h List.not_mem_nil) ⟨by decide, by decide⟩ (by decide) lcl28 rfl kL_bestAt_13 (Nat.le_of_ble_eq_true rfl) ?_
      refine V_iconst hC 1 kL_bestAt_15 (by decide) ?_
      refine V_iretL hC rfl rfl kL_bestAt_16 ⟨(Nat.le_of_ble_eq_true rfl), (Nat.le_of_ble_eq_true rfl)⟩ ?_
      exact Or.inr ⟨hK, by rw [h1], rfl, hg⟩
    · obtain rfl : E = "java/lang/IllegalArgumentException" := by rw [hE, h1]; decide
      refine VX_cat hC hX [(0, 10, 13, 28)] [] (0, 10, 17, 13) rfl (by simp [xCl]) (List.forall_mem_cons.mpr ⟨⟨by decide, "java/lang/IndexOutOfBoundsException", by simp [xCl], lcl28, by decide⟩, (fun _ h => absurd h List.not_mem_nil)⟩) ⟨by decide, by decide⟩ (by decide) lcl13 rfl kL_bestAt_17 (Nat.le_of_ble_eq_true rfl) ?_
      refine V_iconst hC 2 kL_bestAt_19 (by decide) ?_
      refine V_iretL hC rfl rfl kL_bestAt_20 ⟨(Nat.le_of_ble_eq_true rfl), (Nat.le_of_ble_eq_true rfl)⟩ ?_
      exact Or.inr ⟨hK, by rw [h1], rfl, hg⟩
  · obtain ⟨y, rfl, hK, hf⟩ := hq
    refine V_i2l hC kL_bestAt_8 ?_
    refine V_last hC 0 rfl kL_bestAt_9 (vp_lit rfl) ?_
    refine V_goto (Cx_L hC) 21 kL_bestAt_10 (by decide) ?_
    refine V_iconst (Cx_L hC) 0 kL_bestAt_21 (by decide) ?_
    refine V_iretL (Cx_L hC) rfl rfl kL_bestAt_22 ⟨(Nat.le_of_ble_eq_true rfl), (Nat.le_of_ble_eq_true rfl)⟩ ?_
    exact Or.inl ⟨hK, rfl, y, rfl, hf⟩
theorem rw_setting (a : Int32) : K_setting a = 0 ∨ K_setting a = 1 := by
  unfold K_setting; repeat' split
  all_goals first | exact Or.inl rfl | exact Or.inr rfl
def mtL_setting : Mt := (yL_setting, cL_setting, 4, (some .int), 8, 242, 1, 6)
theorem kL_setting_0 : Dk mtL_setting 0 (.aload_n 2) 1 1 := ⟨by decide +kernel, rfl⟩
theorem kL_setting_1 : Dk mtL_setting 1 (.iconst 0) 1 2 := ⟨by decide +kernel, rfl⟩
theorem kL_setting_2 : Dk mtL_setting 2 (.aload_n 0) 1 3 := ⟨by decide +kernel, rfl⟩
theorem kL_setting_3 : Dk mtL_setting 3 (.iload_n 1) 1 4 := ⟨by decide +kernel, rfl⟩
theorem kL_setting_4 : Dk mtL_setting 4 (.invokevirtual 39) 3 7 := ⟨by decide +kernel, rfl⟩
theorem kL_setting_7 : Dk mtL_setting 7 (.i2l) 1 8 := ⟨by decide +kernel, rfl⟩
theorem kL_setting_8 : Dk mtL_setting 8 (.lastore) 1 9 := ⟨by decide +kernel, rfl⟩
theorem kL_setting_9 : Dk mtL_setting 9 (.goto 6) 3 12 := ⟨by decide +kernel, rfl⟩
theorem kL_setting_12 : Dk mtL_setting 12 (.astore_n 3) 1 13 := ⟨by decide +kernel, rfl⟩
theorem kL_setting_13 : Dk mtL_setting 13 (.iconst 1) 1 14 := ⟨by decide +kernel, rfl⟩
theorem kL_setting_14 : Dk mtL_setting 14 (.ireturn) 1 15 := ⟨by decide +kernel, rfl⟩
theorem kL_setting_15 : Dk mtL_setting 15 (.iconst 0) 1 16 := ⟨by decide +kernel, rfl⟩
theorem kL_setting_16 : Dk mtL_setting 16 (.ireturn) 1 17 := ⟨by decide +kernel, rfl⟩
theorem mkX5_setting : MkV mtX5_setting 1 := ⟨List.mem_of_getElem? (i := 738) (by decide +kernel), by decide +kernel, by decide +kernel, by decide +kernel, ⟨by decide +kernel, by decide +kernel, by decide +kernel⟩⟩
theorem lxL_39 : Cond.methodLink RL 39 (mY mtX5_setting) ∈ lw_tbl := by decide +kernel
set_option maxHeartbeats 4000000 in
set_option maxRecDepth 100000 in
theorem lw_setting {l : Launch} {w : Wd} {sg : Sg} (hWr : Wr w) (hl0 : l.stackTraces = false) (a : Int32) {o : Nat} {x : Nat} {g : Gs} (hR : Rel sg (x + 4) g) (hI : Inv g) : MT l mtL_setting [(0, 9, 12, 13)] w [vR (some (5, 0, x)), vI a, vR (some (13, 1, o))] sg (PW o w (K_setting a) (fun r g2 => r = g (tn a) ∧ g2 = sg) (fun g2 => g2 = sg)) := by
  refine MT_of [some (vR (some (5, 0, x))), some (vI a), some (vR (some (13, 1, o))), none] rfl (Nat.le_of_ble_eq_true rfl) (by decide +kernel) ?_
  intro p_ e_ s_ m_ args_ below_ meth_ c_ hC hX hO
  refine V_aload_n hC kL_setting_0 rfl ?_
  refine V_iconst hC (0) kL_setting_1 (by decide) ?_
  refine V_aload_n hC kL_setting_2 rfl ?_
  refine V_iload_n hC kL_setting_3 rfl ?_
  refine V_invVX hC hX.1 (cf_setting hWr hl0 a hR hI) mkX5_setting lxL_39 kL_setting_4 (Nat.le_of_ble_eq_true rfl) rfl rfl rfl (Nat.le_of_ble_eq_true rfl) ⟨(Nat.le_of_ble_eq_true rfl), (Nat.le_of_ble_eq_true rfl)⟩ ⟨(Nat.le_of_ble_eq_true rfl), (Nat.le_of_ble_eq_true rfl)⟩ (fun E g9 hp => ?_) (fun r g9 hq => ?_)
  · obtain ⟨hK, hE, hg⟩ := hp
    rcases rw_setting a with h1 | h1
    · exact absurd h1 hK
    · obtain rfl : E = "java/lang/IllegalArgumentException" := by rw [hE, h1]; decide
      refine VX_catn hC hX [] [] (0, 9, 12, 13) rfl (by simp [xCl]) (fun _ h => absurd h List.not_mem_nil) ⟨by decide, by decide⟩ (by decide) lcl13 rfl kL_setting_12 (Nat.le_of_ble_eq_true rfl) ?_
      refine V_iconst hC 1 kL_setting_13 (by decide) ?_
      refine V_iretL hC rfl rfl kL_setting_14 ⟨(Nat.le_of_ble_eq_true rfl), (Nat.le_of_ble_eq_true rfl)⟩ ?_
      exact Or.inr ⟨hK, by rw [h1], rfl, hg⟩
  · obtain ⟨y, rfl, hK, hf⟩ := hq
    refine V_i2l hC kL_setting_7 ?_
    refine V_last hC 0 rfl kL_setting_8 (vp_lit rfl) ?_
    refine V_goto (Cx_L hC) 15 kL_setting_9 (by decide) ?_
    refine V_iconst (Cx_L hC) 0 kL_setting_15 (by decide) ?_
    refine V_iretL (Cx_L hC) rfl rfl kL_setting_16 ⟨(Nat.le_of_ble_eq_true rfl), (Nat.le_of_ble_eq_true rfl)⟩ ?_
    exact Or.inl ⟨hK, rfl, y, rfl, hf⟩
theorem rw_light (g : Gs) (q st k n bo re : Int32) : K_light g q st k n bo re = 0 ∨ K_light g q st k n bo re = 1 ∨ K_light g q st k n bo re = 2 ∨ K_light g q st k n bo re = 3 := by
  unfold K_light; repeat' split
  all_goals first | exact Or.inl rfl | exact Or.inr (Or.inl rfl) | exact Or.inr (Or.inr (Or.inl rfl)) | exact Or.inr (Or.inr (Or.inr rfl))
def mtL_light : Mt := (yL_light, cL_light, 9, (some .int), 9, 267, 1, 6)
theorem kL_light_0 : Dk mtL_light 0 (.aload 7) 2 2 := ⟨by decide +kernel, rfl⟩
theorem kL_light_2 : Dk mtL_light 2 (.iconst 0) 1 3 := ⟨by decide +kernel, rfl⟩
theorem kL_light_3 : Dk mtL_light 3 (.aload_n 0) 1 4 := ⟨by decide +kernel, rfl⟩
theorem kL_light_4 : Dk mtL_light 4 (.iload_n 1) 1 5 := ⟨by decide +kernel, rfl⟩
theorem kL_light_5 : Dk mtL_light 5 (.iload_n 2) 1 6 := ⟨by decide +kernel, rfl⟩
theorem kL_light_6 : Dk mtL_light 6 (.iload_n 3) 1 7 := ⟨by decide +kernel, rfl⟩
theorem kL_light_7 : Dk mtL_light 7 (.iload 4) 2 9 := ⟨by decide +kernel, rfl⟩
theorem kL_light_9 : Dk mtL_light 9 (.iload 5) 2 11 := ⟨by decide +kernel, rfl⟩
theorem kL_light_11 : Dk mtL_light 11 (.iload 6) 2 13 := ⟨by decide +kernel, rfl⟩
theorem kL_light_13 : Dk mtL_light 13 (.invokevirtual 42) 3 16 := ⟨by decide +kernel, rfl⟩
theorem kL_light_16 : Dk mtL_light 16 (.i2l) 1 17 := ⟨by decide +kernel, rfl⟩
theorem kL_light_17 : Dk mtL_light 17 (.lastore) 1 18 := ⟨by decide +kernel, rfl⟩
theorem kL_light_18 : Dk mtL_light 18 (.goto 15) 3 21 := ⟨by decide +kernel, rfl⟩
theorem kL_light_21 : Dk mtL_light 21 (.astore 8) 2 23 := ⟨by decide +kernel, rfl⟩
theorem kL_light_23 : Dk mtL_light 23 (.iconst 1) 1 24 := ⟨by decide +kernel, rfl⟩
theorem kL_light_24 : Dk mtL_light 24 (.ireturn) 1 25 := ⟨by decide +kernel, rfl⟩
theorem kL_light_25 : Dk mtL_light 25 (.astore 8) 2 27 := ⟨by decide +kernel, rfl⟩
theorem kL_light_27 : Dk mtL_light 27 (.iconst 2) 1 28 := ⟨by decide +kernel, rfl⟩
theorem kL_light_28 : Dk mtL_light 28 (.ireturn) 1 29 := ⟨by decide +kernel, rfl⟩
theorem kL_light_29 : Dk mtL_light 29 (.astore 8) 2 31 := ⟨by decide +kernel, rfl⟩
theorem kL_light_31 : Dk mtL_light 31 (.iconst 3) 1 32 := ⟨by decide +kernel, rfl⟩
theorem kL_light_32 : Dk mtL_light 32 (.ireturn) 1 33 := ⟨by decide +kernel, rfl⟩
theorem kL_light_33 : Dk mtL_light 33 (.iconst 0) 1 34 := ⟨by decide +kernel, rfl⟩
theorem kL_light_34 : Dk mtL_light 34 (.ireturn) 1 35 := ⟨by decide +kernel, rfl⟩
theorem mkX5_light : MkV mtX5_light 6 := ⟨List.mem_of_getElem? (i := 750) (by decide +kernel), by decide +kernel, by decide +kernel, by decide +kernel, ⟨by decide +kernel, by decide +kernel, by decide +kernel⟩⟩
theorem lxL_42 : Cond.methodLink RL 42 (mY mtX5_light) ∈ lw_tbl := by decide +kernel
set_option maxHeartbeats 4000000 in
set_option maxRecDepth 100000 in
theorem lw_light {l : Launch} {w : Wd} {sg : Sg} (hWr : Wr w) (hl0 : l.stackTraces = false) (q st k n bo re : Int32) {o : Nat} {x : Nat} {g : Gs} (hR : Rel sg (x + 4) g) (hI : Inv g) {N : Nat} {G : Nat → Gs} {K : Nat → Bool} {S : Nat → Gs} (hm : MRel sg (x + 40) N G K S)  : MT l mtL_light [(0, 18, 21, 28), (0, 18, 25, 13), (0, 18, 29, 15)] w [vR (some (5, 0, x)), vI q, vI st, vI k, vI n, vI bo, vI re, vR (some (13, 1, o))] sg (PW o w (K_light g q st k n bo re) (fun r g2 => r = g 4 ∧ PM x (nPush N) (gPush G N g) K S (F_addLight g q st k n bo re) sg g2) (fun g2 => g2 = sg)) := by
  refine MT_of [some (vR (some (5, 0, x))), some (vI q), some (vI st), some (vI k), some (vI n), some (vI bo), some (vI re), some (vR (some (13, 1, o))), none] rfl (Nat.le_of_ble_eq_true rfl) (by decide +kernel) ?_
  intro p_ e_ s_ m_ args_ below_ meth_ c_ hC hX hO
  refine V_aload hC kL_light_0 rfl ?_
  refine V_iconst hC (0) kL_light_2 (by decide) ?_
  refine V_aload_n hC kL_light_3 rfl ?_
  refine V_iload_n hC kL_light_4 rfl ?_
  refine V_iload_n hC kL_light_5 rfl ?_
  refine V_iload_n hC kL_light_6 rfl ?_
  refine V_iload hC kL_light_7 rfl ?_
  refine V_iload hC kL_light_9 rfl ?_
  refine V_iload hC kL_light_11 rfl ?_
  refine V_invVX hC hX.1 (cf_light hWr hl0 q st k n bo re hR hI hm) mkX5_light lxL_42 kL_light_13 (Nat.le_of_ble_eq_true rfl) rfl rfl rfl (Nat.le_of_ble_eq_true rfl) ⟨(Nat.le_of_ble_eq_true rfl), (Nat.le_of_ble_eq_true rfl)⟩ ⟨(Nat.le_of_ble_eq_true rfl), (Nat.le_of_ble_eq_true rfl)⟩ (fun E g9 hp => ?_) (fun r g9 hq => ?_)
  · obtain ⟨hK, hE, hg⟩ := hp
    rcases rw_light g q st k n bo re with h1 | h1 | h1 | h1
    · exact absurd h1 hK
    · obtain rfl : E = "java/lang/IndexOutOfBoundsException" := by rw [hE, h1]; decide
      refine VX_cat hC hX [] [(0, 18, 25, 13), (0, 18, 29, 15)] (0, 18, 21, 28) rfl (by simp [xCl]) (fun _ h => absurd h List.not_mem_nil) ⟨by decide, by decide⟩ (by decide) lcl28 rfl kL_light_21 (Nat.le_of_ble_eq_true rfl) ?_
      refine V_iconst hC 1 kL_light_23 (by decide) ?_
      refine V_iretL hC rfl rfl kL_light_24 ⟨(Nat.le_of_ble_eq_true rfl), (Nat.le_of_ble_eq_true rfl)⟩ ?_
      exact Or.inr ⟨hK, by rw [h1], rfl, hg⟩
    · obtain rfl : E = "java/lang/IllegalArgumentException" := by rw [hE, h1]; decide
      refine VX_cat hC hX [(0, 18, 21, 28)] [(0, 18, 29, 15)] (0, 18, 25, 13) rfl (by simp [xCl]) (List.forall_mem_cons.mpr ⟨⟨by decide, "java/lang/IndexOutOfBoundsException", by simp [xCl], lcl28, by decide⟩, (fun _ h => absurd h List.not_mem_nil)⟩) ⟨by decide, by decide⟩ (by decide) lcl13 rfl kL_light_25 (Nat.le_of_ble_eq_true rfl) ?_
      refine V_iconst hC 2 kL_light_27 (by decide) ?_
      refine V_iretL hC rfl rfl kL_light_28 ⟨(Nat.le_of_ble_eq_true rfl), (Nat.le_of_ble_eq_true rfl)⟩ ?_
      exact Or.inr ⟨hK, by rw [h1], rfl, hg⟩
    · obtain rfl : E = "java/lang/IllegalStateException" := by rw [hE, h1]; decide
      refine VX_cat hC hX [(0, 18, 21, 28), (0, 18, 25, 13)] [] (0, 18, 29, 15) rfl (by simp [xCl]) (List.forall_mem_cons.mpr ⟨⟨by decide, "java/lang/IndexOutOfBoundsException", by simp [xCl], lcl28, by decide⟩, (List.forall_mem_cons.mpr ⟨⟨by decide, "java/lang/IllegalArgumentException", by simp [xCl], lcl13, by decide⟩, (fun _ h => absurd h List.not_mem_nil)⟩)⟩) ⟨by decide, by decide⟩ (by decide) lcl15 rfl kL_light_29 (Nat.le_of_ble_eq_true rfl) ?_
      refine V_iconst hC 3 kL_light_31 (by decide) ?_
      refine V_iretL hC rfl rfl kL_light_32 ⟨(Nat.le_of_ble_eq_true rfl), (Nat.le_of_ble_eq_true rfl)⟩ ?_
      exact Or.inr ⟨hK, by rw [h1], rfl, hg⟩
  · obtain ⟨y, rfl, hK, hf⟩ := hq
    refine V_i2l hC kL_light_16 ?_
    refine V_last hC 0 rfl kL_light_17 (vp_lit rfl) ?_
    refine V_goto (Cx_L hC) 33 kL_light_18 (by decide) ?_
    refine V_iconst (Cx_L hC) 0 kL_light_33 (by decide) ?_
    refine V_iretL (Cx_L hC) rfl rfl kL_light_34 ⟨(Nat.le_of_ble_eq_true rfl), (Nat.le_of_ble_eq_true rfl)⟩ ?_
    exact Or.inl ⟨hK, rfl, y, rfl, hf⟩
theorem rw_boat (g : Gs) (q v : Int32) : K_boat g q v = 0 ∨ K_boat g q v = 1 ∨ K_boat g q v = 2 ∨ K_boat g q v = 3 := by
  unfold K_boat; repeat' split
  all_goals first | exact Or.inl rfl | exact Or.inr (Or.inl rfl) | exact Or.inr (Or.inr (Or.inl rfl)) | exact Or.inr (Or.inr (Or.inr rfl))
def mtL_boat : Mt := (yL_boat, cL_boat, 5, (some .int), 9, 263, 1, 6)
theorem kL_boat_0 : Dk mtL_boat 0 (.aload_n 3) 1 1 := ⟨by decide +kernel, rfl⟩
theorem kL_boat_1 : Dk mtL_boat 1 (.iconst 0) 1 2 := ⟨by decide +kernel, rfl⟩
theorem kL_boat_2 : Dk mtL_boat 2 (.aload_n 0) 1 3 := ⟨by decide +kernel, rfl⟩
theorem kL_boat_3 : Dk mtL_boat 3 (.iload_n 1) 1 4 := ⟨by decide +kernel, rfl⟩
theorem kL_boat_4 : Dk mtL_boat 4 (.iload_n 2) 1 5 := ⟨by decide +kernel, rfl⟩
theorem kL_boat_5 : Dk mtL_boat 5 (.invokevirtual 46) 3 8 := ⟨by decide +kernel, rfl⟩
theorem kL_boat_8 : Dk mtL_boat 8 (.i2l) 1 9 := ⟨by decide +kernel, rfl⟩
theorem kL_boat_9 : Dk mtL_boat 9 (.lastore) 1 10 := ⟨by decide +kernel, rfl⟩
theorem kL_boat_10 : Dk mtL_boat 10 (.goto 15) 3 13 := ⟨by decide +kernel, rfl⟩
theorem kL_boat_13 : Dk mtL_boat 13 (.astore 4) 2 15 := ⟨by decide +kernel, rfl⟩
theorem kL_boat_15 : Dk mtL_boat 15 (.iconst 1) 1 16 := ⟨by decide +kernel, rfl⟩
theorem kL_boat_16 : Dk mtL_boat 16 (.ireturn) 1 17 := ⟨by decide +kernel, rfl⟩
theorem kL_boat_17 : Dk mtL_boat 17 (.astore 4) 2 19 := ⟨by decide +kernel, rfl⟩
theorem kL_boat_19 : Dk mtL_boat 19 (.iconst 2) 1 20 := ⟨by decide +kernel, rfl⟩
theorem kL_boat_20 : Dk mtL_boat 20 (.ireturn) 1 21 := ⟨by decide +kernel, rfl⟩
theorem kL_boat_21 : Dk mtL_boat 21 (.astore 4) 2 23 := ⟨by decide +kernel, rfl⟩
theorem kL_boat_23 : Dk mtL_boat 23 (.iconst 3) 1 24 := ⟨by decide +kernel, rfl⟩
theorem kL_boat_24 : Dk mtL_boat 24 (.ireturn) 1 25 := ⟨by decide +kernel, rfl⟩
theorem kL_boat_25 : Dk mtL_boat 25 (.iconst 0) 1 26 := ⟨by decide +kernel, rfl⟩
theorem kL_boat_26 : Dk mtL_boat 26 (.ireturn) 1 27 := ⟨by decide +kernel, rfl⟩
theorem mkX5_boat : MkV mtX5_boat 2 := ⟨List.mem_of_getElem? (i := 785) (by decide +kernel), by decide +kernel, by decide +kernel, by decide +kernel, ⟨by decide +kernel, by decide +kernel, by decide +kernel⟩⟩
theorem lxL_46 : Cond.methodLink RL 46 (mY mtX5_boat) ∈ lw_tbl := by decide +kernel
set_option maxHeartbeats 4000000 in
set_option maxRecDepth 100000 in
theorem lw_boat {l : Launch} {w : Wd} {sg : Sg} (hWr : Wr w) (hl0 : l.stackTraces = false) (q v : Int32) {o : Nat} {x : Nat} {g : Gs} (hR : Rel sg (x + 4) g) (hI : Inv g) {N : Nat} {G : Nat → Gs} {K : Nat → Bool} {S : Nat → Gs} (hm : MRel sg (x + 40) N G K S)  : MT l mtL_boat [(0, 10, 13, 28), (0, 10, 17, 13), (0, 10, 21, 15)] w [vR (some (5, 0, x)), vI q, vI v, vR (some (13, 1, o))] sg (PW o w (K_boat g q v) (fun r g2 => r = g 5 ∧ PM x (nPush N) (gPush G N g) K S (F_addBoat g q v) sg g2) (fun g2 => g2 = sg)) := by
  refine MT_of [some (vR (some (5, 0, x))), some (vI q), some (vI v), some (vR (some (13, 1, o))), none] rfl (Nat.le_of_ble_eq_true rfl) (by decide +kernel) ?_
  intro p_ e_ s_ m_ args_ below_ meth_ c_ hC hX hO
  refine V_aload_n hC kL_boat_0 rfl ?_
  refine V_iconst hC (0) kL_boat_1 (by decide) ?_
  refine V_aload_n hC kL_boat_2 rfl ?_
  refine V_iload_n hC kL_boat_3 rfl ?_
  refine V_iload_n hC kL_boat_4 rfl ?_
  refine V_invVX hC hX.1 (cf_boat hWr hl0 q v hR hI hm) mkX5_boat lxL_46 kL_boat_5 (Nat.le_of_ble_eq_true rfl) rfl rfl rfl (Nat.le_of_ble_eq_true rfl) ⟨(Nat.le_of_ble_eq_true rfl), (Nat.le_of_ble_eq_true rfl)⟩ ⟨(Nat.le_of_ble_eq_true rfl), (Nat.le_of_ble_eq_true rfl)⟩ (fun E g9 hp => ?_) (fun r g9 hq => ?_)
  · obtain ⟨hK, hE, hg⟩ := hp
    rcases rw_boat g q v with h1 | h1 | h1 | h1
    · exact absurd h1 hK
    · obtain rfl : E = "java/lang/IndexOutOfBoundsException" := by rw [hE, h1]; decide
      refine VX_cat hC hX [] [(0, 10, 17, 13), (0, 10, 21, 15)] (0, 10, 13, 28) rfl (by simp [xCl]) (fun _ h => absurd h List.not_mem_nil) ⟨by decide, by decide⟩ (by decide) lcl28 rfl kL_boat_13 (Nat.le_of_ble_eq_true rfl) ?_
      refine V_iconst hC 1 kL_boat_15 (by decide) ?_
      refine V_iretL hC rfl rfl kL_boat_16 ⟨(Nat.le_of_ble_eq_true rfl), (Nat.le_of_ble_eq_true rfl)⟩ ?_
      exact Or.inr ⟨hK, by rw [h1], rfl, hg⟩
    · obtain rfl : E = "java/lang/IllegalArgumentException" := by rw [hE, h1]; decide
      refine VX_cat hC hX [(0, 10, 13, 28)] [(0, 10, 21, 15)] (0, 10, 17, 13) rfl (by simp [xCl]) (List.forall_mem_cons.mpr ⟨⟨by decide, "java/lang/IndexOutOfBoundsException", by simp [xCl], lcl28, by decide⟩, (fun _ h => absurd h List.not_mem_nil)⟩) ⟨by decide, by decide⟩ (by decide) lcl13 rfl kL_boat_17 (Nat.le_of_ble_eq_true rfl) ?_
      refine V_iconst hC 2 kL_boat_19 (by decide) ?_
      refine V_iretL hC rfl rfl kL_boat_20 ⟨(Nat.le_of_ble_eq_true rfl), (Nat.le_of_ble_eq_true rfl)⟩ ?_
      exact Or.inr ⟨hK, by rw [h1], rfl, hg⟩
    · obtain rfl : E = "java/lang/IllegalStateException" := by rw [hE, h1]; decide
      refine VX_cat hC hX [(0, 10, 13, 28), (0, 10, 17, 13)] [] (0, 10, 21, 15) rfl (by simp [xCl]) (List.forall_mem_cons.mpr ⟨⟨by decide, "java/lang/IndexOutOfBoundsException", by simp [xCl], lcl28, by decide⟩, (List.forall_mem_cons.mpr ⟨⟨by decide, "java/lang/IllegalArgumentException", by simp [xCl], lcl13, by decide⟩, (fun _ h => absurd h List.not_mem_nil)⟩)⟩) ⟨by decide, by decide⟩ (by decide) lcl15 rfl kL_boat_21 (Nat.le_of_ble_eq_true rfl) ?_
      refine V_iconst hC 3 kL_boat_23 (by decide) ?_
      refine V_iretL hC rfl rfl kL_boat_24 ⟨(Nat.le_of_ble_eq_true rfl), (Nat.le_of_ble_eq_true rfl)⟩ ?_
      exact Or.inr ⟨hK, by rw [h1], rfl, hg⟩
  · obtain ⟨y, rfl, hK, hf⟩ := hq
    refine V_i2l hC kL_boat_8 ?_
    refine V_last hC 0 rfl kL_boat_9 (vp_lit rfl) ?_
    refine V_goto (Cx_L hC) 25 kL_boat_10 (by decide) ?_
    refine V_iconst (Cx_L hC) 0 kL_boat_25 (by decide) ?_
    refine V_iretL (Cx_L hC) rfl rfl kL_boat_26 ⟨(Nat.le_of_ble_eq_true rfl), (Nat.le_of_ble_eq_true rfl)⟩ ?_
    exact Or.inl ⟨hK, rfl, y, rfl, hf⟩
theorem rw_steer (g : Gs) (b v : Int32) : K_steer g b v = 0 ∨ K_steer g b v = 1 ∨ K_steer g b v = 2 := by
  unfold K_steer; repeat' split
  all_goals first | exact Or.inl rfl | exact Or.inr (Or.inl rfl) | exact Or.inr (Or.inr rfl)
def mtL_steer : Mt := (yL_steer, cL_steer, 5, (some .int), 9, 263, 1, 6)
theorem kL_steer_0 : Dk mtL_steer 0 (.aload_n 3) 1 1 := ⟨by decide +kernel, rfl⟩
theorem kL_steer_1 : Dk mtL_steer 1 (.iconst 0) 1 2 := ⟨by decide +kernel, rfl⟩
theorem kL_steer_2 : Dk mtL_steer 2 (.aload_n 0) 1 3 := ⟨by decide +kernel, rfl⟩
theorem kL_steer_3 : Dk mtL_steer 3 (.iload_n 1) 1 4 := ⟨by decide +kernel, rfl⟩
theorem kL_steer_4 : Dk mtL_steer 4 (.iload_n 2) 1 5 := ⟨by decide +kernel, rfl⟩
theorem kL_steer_5 : Dk mtL_steer 5 (.invokevirtual 49) 3 8 := ⟨by decide +kernel, rfl⟩
theorem kL_steer_8 : Dk mtL_steer 8 (.i2l) 1 9 := ⟨by decide +kernel, rfl⟩
theorem kL_steer_9 : Dk mtL_steer 9 (.lastore) 1 10 := ⟨by decide +kernel, rfl⟩
theorem kL_steer_10 : Dk mtL_steer 10 (.goto 11) 3 13 := ⟨by decide +kernel, rfl⟩
theorem kL_steer_13 : Dk mtL_steer 13 (.astore 4) 2 15 := ⟨by decide +kernel, rfl⟩
theorem kL_steer_15 : Dk mtL_steer 15 (.iconst 1) 1 16 := ⟨by decide +kernel, rfl⟩
theorem kL_steer_16 : Dk mtL_steer 16 (.ireturn) 1 17 := ⟨by decide +kernel, rfl⟩
theorem kL_steer_17 : Dk mtL_steer 17 (.astore 4) 2 19 := ⟨by decide +kernel, rfl⟩
theorem kL_steer_19 : Dk mtL_steer 19 (.iconst 2) 1 20 := ⟨by decide +kernel, rfl⟩
theorem kL_steer_20 : Dk mtL_steer 20 (.ireturn) 1 21 := ⟨by decide +kernel, rfl⟩
theorem kL_steer_21 : Dk mtL_steer 21 (.iconst 0) 1 22 := ⟨by decide +kernel, rfl⟩
theorem kL_steer_22 : Dk mtL_steer 22 (.ireturn) 1 23 := ⟨by decide +kernel, rfl⟩
theorem mkX5_steer : MkV mtX5_steer 2 := ⟨List.mem_of_getElem? (i := 794) (by decide +kernel), by decide +kernel, by decide +kernel, by decide +kernel, ⟨by decide +kernel, by decide +kernel, by decide +kernel⟩⟩
theorem lxL_49 : Cond.methodLink RL 49 (mY mtX5_steer) ∈ lw_tbl := by decide +kernel
set_option maxHeartbeats 4000000 in
set_option maxRecDepth 100000 in
theorem lw_steer {l : Launch} {w : Wd} {sg : Sg} (hWr : Wr w) (hl0 : l.stackTraces = false) (b v : Int32) {o : Nat} {x : Nat} {g : Gs} (hR : Rel sg (x + 4) g) (hI : Inv g) {N : Nat} {G : Nat → Gs} {K : Nat → Bool} {S : Nat → Gs} (hm : MRel sg (x + 40) N G K S)  : MT l mtL_steer [(0, 10, 13, 28), (0, 10, 17, 13)] w [vR (some (5, 0, x)), vI b, vI v, vR (some (13, 1, o))] sg (PW o w (K_steer g b v) (fun r g2 => r = gB g b 1 ∧ PM x (nPush N) (gPush G N g) K S (pB g b 1 v) sg g2) (fun g2 => g2 = sg)) := by
  refine MT_of [some (vR (some (5, 0, x))), some (vI b), some (vI v), some (vR (some (13, 1, o))), none] rfl (Nat.le_of_ble_eq_true rfl) (by decide +kernel) ?_
  intro p_ e_ s_ m_ args_ below_ meth_ c_ hC hX hO
  refine V_aload_n hC kL_steer_0 rfl ?_
  refine V_iconst hC (0) kL_steer_1 (by decide) ?_
  refine V_aload_n hC kL_steer_2 rfl ?_
  refine V_iload_n hC kL_steer_3 rfl ?_
  refine V_iload_n hC kL_steer_4 rfl ?_
  refine V_invVX hC hX.1 (cf_steer hWr hl0 b v hR hI hm) mkX5_steer lxL_49 kL_steer_5 (Nat.le_of_ble_eq_true rfl) rfl rfl rfl (Nat.le_of_ble_eq_true rfl) ⟨(Nat.le_of_ble_eq_true rfl), (Nat.le_of_ble_eq_true rfl)⟩ ⟨(Nat.le_of_ble_eq_true rfl), (Nat.le_of_ble_eq_true rfl)⟩ (fun E g9 hp => ?_) (fun r g9 hq => ?_)
  · obtain ⟨hK, hE, hg⟩ := hp
    rcases rw_steer g b v with h1 | h1 | h1
    · exact absurd h1 hK
    · obtain rfl : E = "java/lang/IndexOutOfBoundsException" := by rw [hE, h1]; decide
      refine VX_cat hC hX [] [(0, 10, 17, 13)] (0, 10, 13, 28) rfl (by simp [xCl]) (fun _ h => absurd h List.not_mem_nil) ⟨by decide, by decide⟩ (by decide) lcl28 rfl kL_steer_13 (Nat.le_of_ble_eq_true rfl) ?_
      refine V_iconst hC 1 kL_steer_15 (by decide) ?_
      refine V_iretL hC rfl rfl kL_steer_16 ⟨(Nat.le_of_ble_eq_true rfl), (Nat.le_of_ble_eq_true rfl)⟩ ?_
      exact Or.inr ⟨hK, by rw [h1], rfl, hg⟩
    · obtain rfl : E = "java/lang/IllegalArgumentException" := by rw [hE, h1]; decide
      refine VX_cat hC hX [(0, 10, 13, 28)] [] (0, 10, 17, 13) rfl (by simp [xCl]) (List.forall_mem_cons.mpr ⟨⟨by decide, "java/lang/IndexOutOfBoundsException", by simp [xCl], lcl28, by decide⟩, (fun _ h => absurd h List.not_mem_nil)⟩) ⟨by decide, by decide⟩ (by decide) lcl13 rfl kL_steer_17 (Nat.le_of_ble_eq_true rfl) ?_
      refine V_iconst hC 2 kL_steer_19 (by decide) ?_
      refine V_iretL hC rfl rfl kL_steer_20 ⟨(Nat.le_of_ble_eq_true rfl), (Nat.le_of_ble_eq_true rfl)⟩ ?_
      exact Or.inr ⟨hK, by rw [h1], rfl, hg⟩
  · obtain ⟨y, rfl, hK, hf⟩ := hq
    refine V_i2l hC kL_steer_8 ?_
    refine V_last hC 0 rfl kL_steer_9 (vp_lit rfl) ?_
    refine V_goto (Cx_L hC) 21 kL_steer_10 (by decide) ?_
    refine V_iconst (Cx_L hC) 0 kL_steer_21 (by decide) ?_
    refine V_iretL (Cx_L hC) rfl rfl kL_steer_22 ⟨(Nat.le_of_ble_eq_true rfl), (Nat.le_of_ble_eq_true rfl)⟩ ?_
    exact Or.inl ⟨hK, rfl, y, rfl, hf⟩
theorem rw_talk (g : Gs) (b v : Int32) : K_talk g b v = 0 ∨ K_talk g b v = 1 ∨ K_talk g b v = 2 ∨ K_talk g b v = 3 := by
  unfold K_talk; repeat' split
  all_goals first | exact Or.inl rfl | exact Or.inr (Or.inl rfl) | exact Or.inr (Or.inr (Or.inl rfl)) | exact Or.inr (Or.inr (Or.inr rfl))
def mtL_talk : Mt := (yL_talk, cL_talk, 5, (some .int), 9, 263, 1, 6)
theorem kL_talk_0 : Dk mtL_talk 0 (.aload_n 3) 1 1 := ⟨by decide +kernel, rfl⟩
theorem kL_talk_1 : Dk mtL_talk 1 (.iconst 0) 1 2 := ⟨by decide +kernel, rfl⟩
theorem kL_talk_2 : Dk mtL_talk 2 (.aload_n 0) 1 3 := ⟨by decide +kernel, rfl⟩
theorem kL_talk_3 : Dk mtL_talk 3 (.iload_n 1) 1 4 := ⟨by decide +kernel, rfl⟩
theorem kL_talk_4 : Dk mtL_talk 4 (.iload_n 2) 1 5 := ⟨by decide +kernel, rfl⟩
theorem kL_talk_5 : Dk mtL_talk 5 (.invokevirtual 52) 3 8 := ⟨by decide +kernel, rfl⟩
theorem kL_talk_8 : Dk mtL_talk 8 (.i2l) 1 9 := ⟨by decide +kernel, rfl⟩
theorem kL_talk_9 : Dk mtL_talk 9 (.lastore) 1 10 := ⟨by decide +kernel, rfl⟩
theorem kL_talk_10 : Dk mtL_talk 10 (.goto 15) 3 13 := ⟨by decide +kernel, rfl⟩
theorem kL_talk_13 : Dk mtL_talk 13 (.astore 4) 2 15 := ⟨by decide +kernel, rfl⟩
theorem kL_talk_15 : Dk mtL_talk 15 (.iconst 1) 1 16 := ⟨by decide +kernel, rfl⟩
theorem kL_talk_16 : Dk mtL_talk 16 (.ireturn) 1 17 := ⟨by decide +kernel, rfl⟩
theorem kL_talk_17 : Dk mtL_talk 17 (.astore 4) 2 19 := ⟨by decide +kernel, rfl⟩
theorem kL_talk_19 : Dk mtL_talk 19 (.iconst 2) 1 20 := ⟨by decide +kernel, rfl⟩
theorem kL_talk_20 : Dk mtL_talk 20 (.ireturn) 1 21 := ⟨by decide +kernel, rfl⟩
theorem kL_talk_21 : Dk mtL_talk 21 (.astore 4) 2 23 := ⟨by decide +kernel, rfl⟩
theorem kL_talk_23 : Dk mtL_talk 23 (.iconst 3) 1 24 := ⟨by decide +kernel, rfl⟩
theorem kL_talk_24 : Dk mtL_talk 24 (.ireturn) 1 25 := ⟨by decide +kernel, rfl⟩
theorem kL_talk_25 : Dk mtL_talk 25 (.iconst 0) 1 26 := ⟨by decide +kernel, rfl⟩
theorem kL_talk_26 : Dk mtL_talk 26 (.ireturn) 1 27 := ⟨by decide +kernel, rfl⟩
theorem mkX5_talk : MkV mtX5_talk 2 := ⟨List.mem_of_getElem? (i := 803) (by decide +kernel), by decide +kernel, by decide +kernel, by decide +kernel, ⟨by decide +kernel, by decide +kernel, by decide +kernel⟩⟩
theorem lxL_52 : Cond.methodLink RL 52 (mY mtX5_talk) ∈ lw_tbl := by decide +kernel
set_option maxHeartbeats 4000000 in
set_option maxRecDepth 100000 in
theorem lw_talk {l : Launch} {w : Wd} {sg : Sg} (hWr : Wr w) (hl0 : l.stackTraces = false) (b v : Int32) {o : Nat} {x : Nat} {g : Gs} (hR : Rel sg (x + 4) g) (hI : Inv g) {N : Nat} {G : Nat → Gs} {K : Nat → Bool} {S : Nat → Gs} (hm : MRel sg (x + 40) N G K S)  : MT l mtL_talk [(0, 10, 13, 28), (0, 10, 17, 13), (0, 10, 21, 15)] w [vR (some (5, 0, x)), vI b, vI v, vR (some (13, 1, o))] sg (PW o w (K_talk g b v) (fun r g2 => r = gB g b 3 ∧ PM x (nPush N) (gPush G N g) K S (pB g b 3 v) sg g2) (fun g2 => g2 = sg)) := by
  refine MT_of [some (vR (some (5, 0, x))), some (vI b), some (vI v), some (vR (some (13, 1, o))), none] rfl (Nat.le_of_ble_eq_true rfl) (by decide +kernel) ?_
  intro p_ e_ s_ m_ args_ below_ meth_ c_ hC hX hO
  refine V_aload_n hC kL_talk_0 rfl ?_
  refine V_iconst hC (0) kL_talk_1 (by decide) ?_
  refine V_aload_n hC kL_talk_2 rfl ?_
  refine V_iload_n hC kL_talk_3 rfl ?_
  refine V_iload_n hC kL_talk_4 rfl ?_
  refine V_invVX hC hX.1 (cf_talk hWr hl0 b v hR hI hm) mkX5_talk lxL_52 kL_talk_5 (Nat.le_of_ble_eq_true rfl) rfl rfl rfl (Nat.le_of_ble_eq_true rfl) ⟨(Nat.le_of_ble_eq_true rfl), (Nat.le_of_ble_eq_true rfl)⟩ ⟨(Nat.le_of_ble_eq_true rfl), (Nat.le_of_ble_eq_true rfl)⟩ (fun E g9 hp => ?_) (fun r g9 hq => ?_)
  · obtain ⟨hK, hE, hg⟩ := hp
    rcases rw_talk g b v with h1 | h1 | h1 | h1
    · exact absurd h1 hK
    · obtain rfl : E = "java/lang/IndexOutOfBoundsException" := by rw [hE, h1]; decide
      refine VX_cat hC hX [] [(0, 10, 17, 13), (0, 10, 21, 15)] (0, 10, 13, 28) rfl (by simp [xCl]) (fun _ h => absurd h List.not_mem_nil) ⟨by decide, by decide⟩ (by decide) lcl28 rfl kL_talk_13 (Nat.le_of_ble_eq_true rfl) ?_
      refine V_iconst hC 1 kL_talk_15 (by decide) ?_
      refine V_iretL hC rfl rfl kL_talk_16 ⟨(Nat.le_of_ble_eq_true rfl), (Nat.le_of_ble_eq_true rfl)⟩ ?_
      exact Or.inr ⟨hK, by rw [h1], rfl, hg⟩
    · obtain rfl : E = "java/lang/IllegalArgumentException" := by rw [hE, h1]; decide
      refine VX_cat hC hX [(0, 10, 13, 28)] [(0, 10, 21, 15)] (0, 10, 17, 13) rfl (by simp [xCl]) (List.forall_mem_cons.mpr ⟨⟨by decide, "java/lang/IndexOutOfBoundsException", by simp [xCl], lcl28, by decide⟩, (fun _ h => absurd h List.not_mem_nil)⟩) ⟨by decide, by decide⟩ (by decide) lcl13 rfl kL_talk_17 (Nat.le_of_ble_eq_true rfl) ?_
      refine V_iconst hC 2 kL_talk_19 (by decide) ?_
      refine V_iretL hC rfl rfl kL_talk_20 ⟨(Nat.le_of_ble_eq_true rfl), (Nat.le_of_ble_eq_true rfl)⟩ ?_
      exact Or.inr ⟨hK, by rw [h1], rfl, hg⟩
    · obtain rfl : E = "java/lang/IllegalStateException" := by rw [hE, h1]; decide
      refine VX_cat hC hX [(0, 10, 13, 28), (0, 10, 17, 13)] [] (0, 10, 21, 15) rfl (by simp [xCl]) (List.forall_mem_cons.mpr ⟨⟨by decide, "java/lang/IndexOutOfBoundsException", by simp [xCl], lcl28, by decide⟩, (List.forall_mem_cons.mpr ⟨⟨by decide, "java/lang/IllegalArgumentException", by simp [xCl], lcl13, by decide⟩, (fun _ h => absurd h List.not_mem_nil)⟩)⟩) ⟨by decide, by decide⟩ (by decide) lcl15 rfl kL_talk_21 (Nat.le_of_ble_eq_true rfl) ?_
      refine V_iconst hC 3 kL_talk_23 (by decide) ?_
      refine V_iretL hC rfl rfl kL_talk_24 ⟨(Nat.le_of_ble_eq_true rfl), (Nat.le_of_ble_eq_true rfl)⟩ ?_
      exact Or.inr ⟨hK, by rw [h1], rfl, hg⟩
  · obtain ⟨y, rfl, hK, hf⟩ := hq
    refine V_i2l hC kL_talk_8 ?_
    refine V_last hC 0 rfl kL_talk_9 (vp_lit rfl) ?_
    refine V_goto (Cx_L hC) 25 kL_talk_10 (by decide) ?_
    refine V_iconst (Cx_L hC) 0 kL_talk_25 (by decide) ?_
    refine V_iretL (Cx_L hC) rfl rfl kL_talk_26 ⟨(Nat.le_of_ble_eq_true rfl), (Nat.le_of_ble_eq_true rfl)⟩ ?_
    exact Or.inl ⟨hK, rfl, y, rfl, hf⟩
theorem rw_lean (g : Gs) (b v : Int32) : K_lean g b v = 0 ∨ K_lean g b v = 1 ∨ K_lean g b v = 2 := by
  unfold K_lean; repeat' split
  all_goals first | exact Or.inl rfl | exact Or.inr (Or.inl rfl) | exact Or.inr (Or.inr rfl)
def mtL_lean : Mt := (yL_lean, cL_lean, 5, (some .int), 9, 263, 1, 6)
theorem kL_lean_0 : Dk mtL_lean 0 (.aload_n 3) 1 1 := ⟨by decide +kernel, rfl⟩
theorem kL_lean_1 : Dk mtL_lean 1 (.iconst 0) 1 2 := ⟨by decide +kernel, rfl⟩
theorem kL_lean_2 : Dk mtL_lean 2 (.aload_n 0) 1 3 := ⟨by decide +kernel, rfl⟩
theorem kL_lean_3 : Dk mtL_lean 3 (.iload_n 1) 1 4 := ⟨by decide +kernel, rfl⟩
theorem kL_lean_4 : Dk mtL_lean 4 (.iload_n 2) 1 5 := ⟨by decide +kernel, rfl⟩
theorem kL_lean_5 : Dk mtL_lean 5 (.invokevirtual 55) 3 8 := ⟨by decide +kernel, rfl⟩
theorem kL_lean_8 : Dk mtL_lean 8 (.i2l) 1 9 := ⟨by decide +kernel, rfl⟩
theorem kL_lean_9 : Dk mtL_lean 9 (.lastore) 1 10 := ⟨by decide +kernel, rfl⟩
theorem kL_lean_10 : Dk mtL_lean 10 (.goto 11) 3 13 := ⟨by decide +kernel, rfl⟩
theorem kL_lean_13 : Dk mtL_lean 13 (.astore 4) 2 15 := ⟨by decide +kernel, rfl⟩
theorem kL_lean_15 : Dk mtL_lean 15 (.iconst 1) 1 16 := ⟨by decide +kernel, rfl⟩
theorem kL_lean_16 : Dk mtL_lean 16 (.ireturn) 1 17 := ⟨by decide +kernel, rfl⟩
theorem kL_lean_17 : Dk mtL_lean 17 (.astore 4) 2 19 := ⟨by decide +kernel, rfl⟩
theorem kL_lean_19 : Dk mtL_lean 19 (.iconst 2) 1 20 := ⟨by decide +kernel, rfl⟩
theorem kL_lean_20 : Dk mtL_lean 20 (.ireturn) 1 21 := ⟨by decide +kernel, rfl⟩
theorem kL_lean_21 : Dk mtL_lean 21 (.iconst 0) 1 22 := ⟨by decide +kernel, rfl⟩
theorem kL_lean_22 : Dk mtL_lean 22 (.ireturn) 1 23 := ⟨by decide +kernel, rfl⟩
theorem mkX5_lean : MkV mtX5_lean 2 := ⟨List.mem_of_getElem? (i := 812) (by decide +kernel), by decide +kernel, by decide +kernel, by decide +kernel, ⟨by decide +kernel, by decide +kernel, by decide +kernel⟩⟩
theorem lxL_55 : Cond.methodLink RL 55 (mY mtX5_lean) ∈ lw_tbl := by decide +kernel
set_option maxHeartbeats 4000000 in
set_option maxRecDepth 100000 in
theorem lw_lean {l : Launch} {w : Wd} {sg : Sg} (hWr : Wr w) (hl0 : l.stackTraces = false) (b v : Int32) {o : Nat} {x : Nat} {g : Gs} (hR : Rel sg (x + 4) g) (hI : Inv g) {N : Nat} {G : Nat → Gs} {K : Nat → Bool} {S : Nat → Gs} (hm : MRel sg (x + 40) N G K S)  : MT l mtL_lean [(0, 10, 13, 28), (0, 10, 17, 13)] w [vR (some (5, 0, x)), vI b, vI v, vR (some (13, 1, o))] sg (PW o w (K_lean g b v) (fun r g2 => r = gL g b 6 ∧ PM x (nPush N) (gPush G N g) K S (F_lean g b v) sg g2) (fun g2 => g2 = sg)) := by
  refine MT_of [some (vR (some (5, 0, x))), some (vI b), some (vI v), some (vR (some (13, 1, o))), none] rfl (Nat.le_of_ble_eq_true rfl) (by decide +kernel) ?_
  intro p_ e_ s_ m_ args_ below_ meth_ c_ hC hX hO
  refine V_aload_n hC kL_lean_0 rfl ?_
  refine V_iconst hC (0) kL_lean_1 (by decide) ?_
  refine V_aload_n hC kL_lean_2 rfl ?_
  refine V_iload_n hC kL_lean_3 rfl ?_
  refine V_iload_n hC kL_lean_4 rfl ?_
  refine V_invVX hC hX.1 (cf_lean hWr hl0 b v hR hI hm) mkX5_lean lxL_55 kL_lean_5 (Nat.le_of_ble_eq_true rfl) rfl rfl rfl (Nat.le_of_ble_eq_true rfl) ⟨(Nat.le_of_ble_eq_true rfl), (Nat.le_of_ble_eq_true rfl)⟩ ⟨(Nat.le_of_ble_eq_true rfl), (Nat.le_of_ble_eq_true rfl)⟩ (fun E g9 hp => ?_) (fun r g9 hq => ?_)
  · obtain ⟨hK, hE, hg⟩ := hp
    rcases rw_lean g b v with h1 | h1 | h1
    · exact absurd h1 hK
    · obtain rfl : E = "java/lang/IndexOutOfBoundsException" := by rw [hE, h1]; decide
      refine VX_cat hC hX [] [(0, 10, 17, 13)] (0, 10, 13, 28) rfl (by simp [xCl]) (fun _ h => absurd h List.not_mem_nil) ⟨by decide, by decide⟩ (by decide) lcl28 rfl kL_lean_13 (Nat.le_of_ble_eq_true rfl) ?_
      refine V_iconst hC 1 kL_lean_15 (by decide) ?_
      refine V_iretL hC rfl rfl kL_lean_16 ⟨(Nat.le_of_ble_eq_true rfl), (Nat.le_of_ble_eq_true rfl)⟩ ?_
      exact Or.inr ⟨hK, by rw [h1], rfl, hg⟩
    · obtain rfl : E = "java/lang/IllegalArgumentException" := by rw [hE, h1]; decide
      refine VX_cat hC hX [(0, 10, 13, 28)] [] (0, 10, 17, 13) rfl (by simp [xCl]) (List.forall_mem_cons.mpr ⟨⟨by decide, "java/lang/IndexOutOfBoundsException", by simp [xCl], lcl28, by decide⟩, (fun _ h => absurd h List.not_mem_nil)⟩) ⟨by decide, by decide⟩ (by decide) lcl13 rfl kL_lean_17 (Nat.le_of_ble_eq_true rfl) ?_
      refine V_iconst hC 2 kL_lean_19 (by decide) ?_
      refine V_iretL hC rfl rfl kL_lean_20 ⟨(Nat.le_of_ble_eq_true rfl), (Nat.le_of_ble_eq_true rfl)⟩ ?_
      exact Or.inr ⟨hK, by rw [h1], rfl, hg⟩
  · obtain ⟨y, rfl, hK, hf⟩ := hq
    refine V_i2l hC kL_lean_8 ?_
    refine V_last hC 0 rfl kL_lean_9 (vp_lit rfl) ?_
    refine V_goto (Cx_L hC) 21 kL_lean_10 (by decide) ?_
    refine V_iconst (Cx_L hC) 0 kL_lean_21 (by decide) ?_
    refine V_iretL (Cx_L hC) rfl rfl kL_lean_22 ⟨(Nat.le_of_ble_eq_true rfl), (Nat.le_of_ble_eq_true rfl)⟩ ?_
    exact Or.inl ⟨hK, rfl, y, rfl, hf⟩
theorem rw_dim (g : Gs) (b v : Int32) : K_dim g b v = 0 ∨ K_dim g b v = 1 ∨ K_dim g b v = 2 := by
  unfold K_dim; repeat' split
  all_goals first | exact Or.inl rfl | exact Or.inr (Or.inl rfl) | exact Or.inr (Or.inr rfl)
def mtL_dim : Mt := (yL_dim, cL_dim, 5, (some .int), 9, 263, 1, 6)
theorem kL_dim_0 : Dk mtL_dim 0 (.aload_n 3) 1 1 := ⟨by decide +kernel, rfl⟩
theorem kL_dim_1 : Dk mtL_dim 1 (.iconst 0) 1 2 := ⟨by decide +kernel, rfl⟩
theorem kL_dim_2 : Dk mtL_dim 2 (.aload_n 0) 1 3 := ⟨by decide +kernel, rfl⟩
theorem kL_dim_3 : Dk mtL_dim 3 (.iload_n 1) 1 4 := ⟨by decide +kernel, rfl⟩
theorem kL_dim_4 : Dk mtL_dim 4 (.iload_n 2) 1 5 := ⟨by decide +kernel, rfl⟩
theorem kL_dim_5 : Dk mtL_dim 5 (.invokevirtual 58) 3 8 := ⟨by decide +kernel, rfl⟩
theorem kL_dim_8 : Dk mtL_dim 8 (.i2l) 1 9 := ⟨by decide +kernel, rfl⟩
theorem kL_dim_9 : Dk mtL_dim 9 (.lastore) 1 10 := ⟨by decide +kernel, rfl⟩
theorem kL_dim_10 : Dk mtL_dim 10 (.goto 11) 3 13 := ⟨by decide +kernel, rfl⟩
theorem kL_dim_13 : Dk mtL_dim 13 (.astore 4) 2 15 := ⟨by decide +kernel, rfl⟩
theorem kL_dim_15 : Dk mtL_dim 15 (.iconst 1) 1 16 := ⟨by decide +kernel, rfl⟩
theorem kL_dim_16 : Dk mtL_dim 16 (.ireturn) 1 17 := ⟨by decide +kernel, rfl⟩
theorem kL_dim_17 : Dk mtL_dim 17 (.astore 4) 2 19 := ⟨by decide +kernel, rfl⟩
theorem kL_dim_19 : Dk mtL_dim 19 (.iconst 2) 1 20 := ⟨by decide +kernel, rfl⟩
theorem kL_dim_20 : Dk mtL_dim 20 (.ireturn) 1 21 := ⟨by decide +kernel, rfl⟩
theorem kL_dim_21 : Dk mtL_dim 21 (.iconst 0) 1 22 := ⟨by decide +kernel, rfl⟩
theorem kL_dim_22 : Dk mtL_dim 22 (.ireturn) 1 23 := ⟨by decide +kernel, rfl⟩
theorem mkX5_dim : MkV mtX5_dim 2 := ⟨List.mem_of_getElem? (i := 827) (by decide +kernel), by decide +kernel, by decide +kernel, by decide +kernel, ⟨by decide +kernel, by decide +kernel, by decide +kernel⟩⟩
theorem lxL_58 : Cond.methodLink RL 58 (mY mtX5_dim) ∈ lw_tbl := by decide +kernel
set_option maxHeartbeats 4000000 in
set_option maxRecDepth 100000 in
theorem lw_dim {l : Launch} {w : Wd} {sg : Sg} (hWr : Wr w) (hl0 : l.stackTraces = false) (b v : Int32) {o : Nat} {x : Nat} {g : Gs} (hR : Rel sg (x + 4) g) (hI : Inv g) {N : Nat} {G : Nat → Gs} {K : Nat → Bool} {S : Nat → Gs} (hm : MRel sg (x + 40) N G K S)  : MT l mtL_dim [(0, 10, 13, 28), (0, 10, 17, 13)] w [vR (some (5, 0, x)), vI b, vI v, vR (some (13, 1, o))] sg (PW o w (K_dim g b v) (fun r g2 => r = gL g b 1 ∧ PM x (nPush N) (gPush G N g) K S (F_dim g b v) sg g2) (fun g2 => g2 = sg)) := by
  refine MT_of [some (vR (some (5, 0, x))), some (vI b), some (vI v), some (vR (some (13, 1, o))), none] rfl (Nat.le_of_ble_eq_true rfl) (by decide +kernel) ?_
  intro p_ e_ s_ m_ args_ below_ meth_ c_ hC hX hO
  refine V_aload_n hC kL_dim_0 rfl ?_
  refine V_iconst hC (0) kL_dim_1 (by decide) ?_
  refine V_aload_n hC kL_dim_2 rfl ?_
  refine V_iload_n hC kL_dim_3 rfl ?_
  refine V_iload_n hC kL_dim_4 rfl ?_
  refine V_invVX hC hX.1 (cf_dim hWr hl0 b v hR hI hm) mkX5_dim lxL_58 kL_dim_5 (Nat.le_of_ble_eq_true rfl) rfl rfl rfl (Nat.le_of_ble_eq_true rfl) ⟨(Nat.le_of_ble_eq_true rfl), (Nat.le_of_ble_eq_true rfl)⟩ ⟨(Nat.le_of_ble_eq_true rfl), (Nat.le_of_ble_eq_true rfl)⟩ (fun E g9 hp => ?_) (fun r g9 hq => ?_)
  · obtain ⟨hK, hE, hg⟩ := hp
    rcases rw_dim g b v with h1 | h1 | h1
    · exact absurd h1 hK
    · obtain rfl : E = "java/lang/IndexOutOfBoundsException" := by rw [hE, h1]; decide
      refine VX_cat hC hX [] [(0, 10, 17, 13)] (0, 10, 13, 28) rfl (by simp [xCl]) (fun _ h => absurd h List.not_mem_nil) ⟨by decide, by decide⟩ (by decide) lcl28 rfl kL_dim_13 (Nat.le_of_ble_eq_true rfl) ?_
      refine V_iconst hC 1 kL_dim_15 (by decide) ?_
      refine V_iretL hC rfl rfl kL_dim_16 ⟨(Nat.le_of_ble_eq_true rfl), (Nat.le_of_ble_eq_true rfl)⟩ ?_
      exact Or.inr ⟨hK, by rw [h1], rfl, hg⟩
    · obtain rfl : E = "java/lang/IllegalArgumentException" := by rw [hE, h1]; decide
      refine VX_cat hC hX [(0, 10, 13, 28)] [] (0, 10, 17, 13) rfl (by simp [xCl]) (List.forall_mem_cons.mpr ⟨⟨by decide, "java/lang/IndexOutOfBoundsException", by simp [xCl], lcl28, by decide⟩, (fun _ h => absurd h List.not_mem_nil)⟩) ⟨by decide, by decide⟩ (by decide) lcl13 rfl kL_dim_17 (Nat.le_of_ble_eq_true rfl) ?_
      refine V_iconst hC 2 kL_dim_19 (by decide) ?_
      refine V_iretL hC rfl rfl kL_dim_20 ⟨(Nat.le_of_ble_eq_true rfl), (Nat.le_of_ble_eq_true rfl)⟩ ?_
      exact Or.inr ⟨hK, by rw [h1], rfl, hg⟩
  · obtain ⟨y, rfl, hK, hf⟩ := hq
    refine V_i2l hC kL_dim_8 ?_
    refine V_last hC 0 rfl kL_dim_9 (vp_lit rfl) ?_
    refine V_goto (Cx_L hC) 21 kL_dim_10 (by decide) ?_
    refine V_iconst (Cx_L hC) 0 kL_dim_21 (by decide) ?_
    refine V_iretL (Cx_L hC) rfl rfl kL_dim_22 ⟨(Nat.le_of_ble_eq_true rfl), (Nat.le_of_ble_eq_true rfl)⟩ ?_
    exact Or.inl ⟨hK, rfl, y, rfl, hf⟩
theorem rw_set (a v : Int32) : K_set a v = 0 ∨ K_set a v = 1 := by
  unfold K_set; repeat' split
  all_goals first | exact Or.inl rfl | exact Or.inr rfl
def mtL_set : Mt := (yL_set, cL_set, 5, (some .int), 8, 243, 1, 6)
theorem kL_set_0 : Dk mtL_set 0 (.aload_n 3) 1 1 := ⟨by decide +kernel, rfl⟩
theorem kL_set_1 : Dk mtL_set 1 (.iconst 0) 1 2 := ⟨by decide +kernel, rfl⟩
theorem kL_set_2 : Dk mtL_set 2 (.aload_n 0) 1 3 := ⟨by decide +kernel, rfl⟩
theorem kL_set_3 : Dk mtL_set 3 (.iload_n 1) 1 4 := ⟨by decide +kernel, rfl⟩
theorem kL_set_4 : Dk mtL_set 4 (.iload_n 2) 1 5 := ⟨by decide +kernel, rfl⟩
theorem kL_set_5 : Dk mtL_set 5 (.invokevirtual 61) 3 8 := ⟨by decide +kernel, rfl⟩
theorem kL_set_8 : Dk mtL_set 8 (.i2l) 1 9 := ⟨by decide +kernel, rfl⟩
theorem kL_set_9 : Dk mtL_set 9 (.lastore) 1 10 := ⟨by decide +kernel, rfl⟩
theorem kL_set_10 : Dk mtL_set 10 (.goto 7) 3 13 := ⟨by decide +kernel, rfl⟩
theorem kL_set_13 : Dk mtL_set 13 (.astore 4) 2 15 := ⟨by decide +kernel, rfl⟩
theorem kL_set_15 : Dk mtL_set 15 (.iconst 1) 1 16 := ⟨by decide +kernel, rfl⟩
theorem kL_set_16 : Dk mtL_set 16 (.ireturn) 1 17 := ⟨by decide +kernel, rfl⟩
theorem kL_set_17 : Dk mtL_set 17 (.iconst 0) 1 18 := ⟨by decide +kernel, rfl⟩
theorem kL_set_18 : Dk mtL_set 18 (.ireturn) 1 19 := ⟨by decide +kernel, rfl⟩
theorem mkX5_set : MkV mtX5_set 2 := ⟨List.mem_of_getElem? (i := 842) (by decide +kernel), by decide +kernel, by decide +kernel, by decide +kernel, ⟨by decide +kernel, by decide +kernel, by decide +kernel⟩⟩
theorem lxL_61 : Cond.methodLink RL 61 (mY mtX5_set) ∈ lw_tbl := by decide +kernel
set_option maxHeartbeats 4000000 in
set_option maxRecDepth 100000 in
theorem lw_set {l : Launch} {w : Wd} {sg : Sg} (hWr : Wr w) (hl0 : l.stackTraces = false) (a v : Int32) {o : Nat} {x : Nat} {g : Gs} (hR : Rel sg (x + 4) g) (hI : Inv g) {N : Nat} {G : Nat → Gs} {K : Nat → Bool} {S : Nat → Gs} (hm : MRel sg (x + 40) N G K S)  : MT l mtL_set [(0, 10, 13, 13)] w [vR (some (5, 0, x)), vI a, vI v, vR (some (13, 1, o))] sg (PW o w (K_set a v) (fun r g2 => r = g (tn a) ∧ PM x (nPush N) (gPush G N g) K S (upd g (tn a) v) sg g2) (fun g2 => g2 = sg)) := by
  refine MT_of [some (vR (some (5, 0, x))), some (vI a), some (vI v), some (vR (some (13, 1, o))), none] rfl (Nat.le_of_ble_eq_true rfl) (by decide +kernel) ?_
  intro p_ e_ s_ m_ args_ below_ meth_ c_ hC hX hO
  refine V_aload_n hC kL_set_0 rfl ?_
  refine V_iconst hC (0) kL_set_1 (by decide) ?_
  refine V_aload_n hC kL_set_2 rfl ?_
  refine V_iload_n hC kL_set_3 rfl ?_
  refine V_iload_n hC kL_set_4 rfl ?_
  refine V_invVX hC hX.1 (cf_set hWr hl0 a v hR hI hm) mkX5_set lxL_61 kL_set_5 (Nat.le_of_ble_eq_true rfl) rfl rfl rfl (Nat.le_of_ble_eq_true rfl) ⟨(Nat.le_of_ble_eq_true rfl), (Nat.le_of_ble_eq_true rfl)⟩ ⟨(Nat.le_of_ble_eq_true rfl), (Nat.le_of_ble_eq_true rfl)⟩ (fun E g9 hp => ?_) (fun r g9 hq => ?_)
  · obtain ⟨hK, hE, hg⟩ := hp
    rcases rw_set a v with h1 | h1
    · exact absurd h1 hK
    · obtain rfl : E = "java/lang/IllegalArgumentException" := by rw [hE, h1]; decide
      refine VX_cat hC hX [] [] (0, 10, 13, 13) rfl (by simp [xCl]) (fun _ h => absurd h List.not_mem_nil) ⟨by decide, by decide⟩ (by decide) lcl13 rfl kL_set_13 (Nat.le_of_ble_eq_true rfl) ?_
      refine V_iconst hC 1 kL_set_15 (by decide) ?_
      refine V_iretL hC rfl rfl kL_set_16 ⟨(Nat.le_of_ble_eq_true rfl), (Nat.le_of_ble_eq_true rfl)⟩ ?_
      exact Or.inr ⟨hK, by rw [h1], rfl, hg⟩
  · obtain ⟨y, rfl, hK, hf⟩ := hq
    refine V_i2l hC kL_set_8 ?_
    refine V_last hC 0 rfl kL_set_9 (vp_lit rfl) ?_
    refine V_goto (Cx_L hC) 17 kL_set_10 (by decide) ?_
    refine V_iconst (Cx_L hC) 0 kL_set_17 (by decide) ?_
    refine V_iretL (Cx_L hC) rfl rfl kL_set_18 ⟨(Nat.le_of_ble_eq_true rfl), (Nat.le_of_ble_eq_true rfl)⟩ ?_
    exact Or.inl ⟨hK, rfl, y, rfl, hf⟩
theorem rw_ticks (a : Int32) : K_ticks a = 0 ∨ K_ticks a = 1 := by
  unfold K_ticks; repeat' split
  all_goals first | exact Or.inl rfl | exact Or.inr rfl
def mtL_ticks : Mt := (yL_ticks, cL_ticks, 4, (some .int), 8, 243, 1, 6)
theorem kL_ticks_0 : Dk mtL_ticks 0 (.aload_n 2) 1 1 := ⟨by decide +kernel, rfl⟩
theorem kL_ticks_1 : Dk mtL_ticks 1 (.iconst 0) 1 2 := ⟨by decide +kernel, rfl⟩
theorem kL_ticks_2 : Dk mtL_ticks 2 (.aload_n 0) 1 3 := ⟨by decide +kernel, rfl⟩
theorem kL_ticks_3 : Dk mtL_ticks 3 (.iload_n 1) 1 4 := ⟨by decide +kernel, rfl⟩
theorem kL_ticks_4 : Dk mtL_ticks 4 (.invokevirtual 64) 3 7 := ⟨by decide +kernel, rfl⟩
theorem kL_ticks_7 : Dk mtL_ticks 7 (.i2l) 1 8 := ⟨by decide +kernel, rfl⟩
theorem kL_ticks_8 : Dk mtL_ticks 8 (.lastore) 1 9 := ⟨by decide +kernel, rfl⟩
theorem kL_ticks_9 : Dk mtL_ticks 9 (.goto 6) 3 12 := ⟨by decide +kernel, rfl⟩
theorem kL_ticks_12 : Dk mtL_ticks 12 (.astore_n 3) 1 13 := ⟨by decide +kernel, rfl⟩
theorem kL_ticks_13 : Dk mtL_ticks 13 (.iconst 1) 1 14 := ⟨by decide +kernel, rfl⟩
theorem kL_ticks_14 : Dk mtL_ticks 14 (.ireturn) 1 15 := ⟨by decide +kernel, rfl⟩
theorem kL_ticks_15 : Dk mtL_ticks 15 (.iconst 0) 1 16 := ⟨by decide +kernel, rfl⟩
theorem kL_ticks_16 : Dk mtL_ticks 16 (.ireturn) 1 17 := ⟨by decide +kernel, rfl⟩
theorem mkX5_ticks : MkV mtX5_ticks 1 := ⟨List.mem_of_getElem? (i := 852) (by decide +kernel), by decide +kernel, by decide +kernel, by decide +kernel, ⟨by decide +kernel, by decide +kernel, by decide +kernel⟩⟩
theorem lxL_64 : Cond.methodLink RL 64 (mY mtX5_ticks) ∈ lw_tbl := by decide +kernel
set_option maxHeartbeats 4000000 in
set_option maxRecDepth 100000 in
theorem lw_ticks {l : Launch} {w : Wd} {sg : Sg} (hWr : Wr w) (hl0 : l.stackTraces = false) (a : Int32) {o : Nat} {x : Nat} {g : Gs} (hR : Rel sg (x + 4) g) (hI : Inv g) {N : Nat} {G : Nat → Gs} {K : Nat → Bool} {S : Nat → Gs} (hm : MRel sg (x + 40) N G K S)  : MT l mtL_ticks [(0, 9, 12, 13)] w [vR (some (5, 0, x)), vI a, vR (some (13, 1, o))] sg (PW o w (K_ticks a) (fun r g2 => r = F_ticks g (tn a) 7 - g 7 ∧ PM x (nPush N) (gPush G N g) K S (F_ticks g (tn a)) sg g2) (fun g2 => g2 = sg)) := by
  refine MT_of [some (vR (some (5, 0, x))), some (vI a), some (vR (some (13, 1, o))), none] rfl (Nat.le_of_ble_eq_true rfl) (by decide +kernel) ?_
  intro p_ e_ s_ m_ args_ below_ meth_ c_ hC hX hO
  refine V_aload_n hC kL_ticks_0 rfl ?_
  refine V_iconst hC (0) kL_ticks_1 (by decide) ?_
  refine V_aload_n hC kL_ticks_2 rfl ?_
  refine V_iload_n hC kL_ticks_3 rfl ?_
  refine V_invVX hC hX.1 (cf_ticks hWr hl0 a hR hI hm) mkX5_ticks lxL_64 kL_ticks_4 (Nat.le_of_ble_eq_true rfl) rfl rfl rfl (Nat.le_of_ble_eq_true rfl) ⟨(Nat.le_of_ble_eq_true rfl), (Nat.le_of_ble_eq_true rfl)⟩ ⟨(Nat.le_of_ble_eq_true rfl), (Nat.le_of_ble_eq_true rfl)⟩ (fun E g9 hp => ?_) (fun r g9 hq => ?_)
  · obtain ⟨hK, hE, hg⟩ := hp
    rcases rw_ticks a with h1 | h1
    · exact absurd h1 hK
    · obtain rfl : E = "java/lang/IllegalArgumentException" := by rw [hE, h1]; decide
      refine VX_catn hC hX [] [] (0, 9, 12, 13) rfl (by simp [xCl]) (fun _ h => absurd h List.not_mem_nil) ⟨by decide, by decide⟩ (by decide) lcl13 rfl kL_ticks_12 (Nat.le_of_ble_eq_true rfl) ?_
      refine V_iconst hC 1 kL_ticks_13 (by decide) ?_
      refine V_iretL hC rfl rfl kL_ticks_14 ⟨(Nat.le_of_ble_eq_true rfl), (Nat.le_of_ble_eq_true rfl)⟩ ?_
      exact Or.inr ⟨hK, by rw [h1], rfl, hg⟩
  · obtain ⟨y, rfl, hK, hf⟩ := hq
    refine V_i2l hC kL_ticks_7 ?_
    refine V_last hC 0 rfl kL_ticks_8 (vp_lit rfl) ?_
    refine V_goto (Cx_L hC) 15 kL_ticks_9 (by decide) ?_
    refine V_iconst (Cx_L hC) 0 kL_ticks_15 (by decide) ?_
    refine V_iretL (Cx_L hC) rfl rfl kL_ticks_16 ⟨(Nat.le_of_ble_eq_true rfl), (Nat.le_of_ble_eq_true rfl)⟩ ?_
    exact Or.inl ⟨hK, rfl, y, rfl, hf⟩
