-- HOW ct_in fI
-- HOW ct_fails fI
-- HOW ct_of fI
-- HOW ct_ofBoat fI
-- HOW ct_layBoat fV
-- HOW ct_isLight fI
-- HOW ct_isBoat fI
-- HOW ct_isPlace fI
-- HOW ct_bright fI
-- HOW ct_worth fI
-- HOW ct_serves fI
-- HOW ct_best fI
-- HOW ct_sails fV
-- HOW ct_drops fV
-- HOW ct_wished fI
-- HOW ct_hands fV
-- HOW ct_wishes fV
-- HOW ct_finds fV
-- HOW ct_goesOn fV
-- HOW ct_goesTick fV
-- HOW ct_goesBy fI
-- HOW ct_putAside fV
-- HOW ct_takeBack fV
-- HOW ct_isLamp fI
-- HOW ct_addsLight fI
-- HOW ct_actsLight fI
-- HOW ct_addsBoat fI
-- HOW ct_actsBoat fI
-- HOW ct_actsSteer fI
-- HOW ct_canTalk fI
-- HOW ct_actsTalk fI
-- HOW ct_actsLean fI
-- HOW ct_actsDim fI
-- HOW ct_mostOf fI
-- HOW ct_isSetting fI
-- HOW ct_actsSet fI
-- HOW ct_actsTicks fI
-- HOW ct_boatsThat fI
-- HOW ct_servedBy fI
-- HOW ct_begins fV
-- HOW ct_tellsAbout fI
-- HOW ct_about fM
-- HOW ct_lightOf fM
-- HOW ct_boatOf fM
-- HOW ct_brightness fM
-- HOW ct_bestAt fM
-- HOW ct_setting fM
-- HOW ct_saves fV
-- HOW ct_light fM
-- HOW ct_boat fM
-- HOW ct_steer fM
-- HOW ct_talk fM
-- HOW ct_lean fM
-- HOW ct_dim fM
-- HOW ct_set fM
-- HOW ct_ticks fM
-- HOW ct_undo fM
-- HOW ct_save fM
-- HOW ct_restore fM
-- HOW ct_bringsBy fI
-- HOW ct_ifMargin fM
-- HOW ct_held fI
-- HOW ct_room fI
-- HOW ct_dark fI
-- HOW ct_turns fV
-- HOW ct_simulate fM
-- HOW ct_border fM
-- HOW ct_handedIn fM
-- HOW ct_bestMargin fM
-- HOW ct_thrown fI
-- HOW ct_sign fI
-- HOW ct_number fI
-- HOW ct_carriesLight fI
-- HOW ct_carries fI
-- HOW ct_isCommand fI
-- HOW ct_append fM
-- HOW ct_clearText fM
-- HOW ct_readsAll fV
-- HOW ct_errorPosition fI
-- HOW ct_load rI
-- HOW ct_pair fI
-- HOW ct_laysFigures fV
-- HOW ct_succeeds fI
-- HOW ct_runScript rI
-- HOW cl_isPlace fI
-- HOW cl_isSpeed fI
-- HOW cl_isStrength fI
-- HOW cl_isTickCount fI
-- HOW cl_isSetting fI
-- HOW cl_isSlot fI
-- HOW cl_isSettingValue fI
-- HOW cl_shown fI
-- HOW cl_withoutGroups fL
-- HOW cl_lbegin fV
-- HOW cl_lcopy fV
-- HOW cl_bcopy fV
-- HOW cl_lnum fI
-- HOW cl_bnum fI
-- HOW cl_bright fI
-- HOW cl_worth fI
-- HOW cl_bitCount fI
-- HOW cl_servedCount fI
-- HOW cl_takesHandedOn fI
-- HOW cl_takesOthers fI
-- HOW cl_bbegin fV
-- HOW cl_move fV
-- HOW cl_wishFor fV
-- HOW cl_lightR fR
-- HOW cl_lightN fR
-- HOW cl_boatR fR
-- HOW cl_boatN fR
-- HOW cl_setR fI
-- HOW cl_lightAt fR
-- HOW cl_lightAtNo fR
-- HOW cl_boatAt fR
-- HOW cl_boatAtNo fR
-- HOW cl_settingOf fI
-- HOW cl_servedBoats fI
-- HOW cl_talkingBoats fI
-- HOW cl_numberOf fI
-- HOW cl_brightest fI
-- HOW cl_isDark fI
-- HOW cl_freePlaces fI
-- HOW cl_isServing fI
-- HOW cl_isServingAtLeast fI
-- HOW cl_isBoatAt fI
-- HOW cl_lightFault fI
-- HOW cl_boatFault fI
-- HOW cl_steerFault fI
-- HOW cl_dimFault fI
-- HOW cl_leanFault fI
-- HOW cl_talkFault fI
-- HOW cl_putSpeed rI
-- HOW cl_putTalk rI
-- HOW cl_putLeaning rI
-- HOW cl_putStrength rI
-- HOW cl_putSetting rI
-- HOW cl_addLight rI
-- HOW cl_addBoat rI
-- HOW cl_tryLight rI
-- HOW cl_tryBoat rI
-- HOW cl_trySteer rI
-- HOW cl_tryTalk rI
-- HOW cl_tryLean rI
-- HOW cl_tryDim rI
-- HOW cl_trySet rI
-- HOW cl_serve rV
-- HOW cl_lose rV
-- HOW cl_bestWish fI
-- HOW cl_seekKeeper rV
-- HOW cl_ask rV
-- HOW cl_setW fI
-- HOW cl_sail rV
-- HOW cl_pass rV
-- HOW cl_reset rV
-- HOW cl_copyFrom rV
-- HOW cl_stateAt fR
-- HOW cl_slotAt fR
-- HOW cl_hasStates fI
-- HOW cl_mreset rV
-- HOW cl_remember rV
-- HOW cl_takeBack rI
-- HOW cl_isKept fI
-- HOW cl_keep rV
-- HOW cl_bring rV
-- HOW cl_isFull fI
-- HOW cl_add fI
-- HOW cl_empty fI
-- HOW cl_hasMore fI
-- HOW cl_signAt fI
-- HOW cl_number fI
-- HOW cl_formOf fR
-- HOW cl_readNumber fI
/-! the class: its text -/
theorem ups_s (sg : Sg) (k j : Nat) (x : Int32) : ups sg k j x k j = x := by rw [ups_v, if_pos ⟨rfl, rfl⟩]
theorem look_no {a : Int32} (h : ¬ cCmd a) {d o1 o2 o3 o4 o5 o6 : Int} : Op.lookupswitch.offset [(98, o1), (107, o2), (108, o3), (109, o4), (116, o5), (118, o6)] d a.toInt = d := by
  have q : ∀ k : Int32, (k = 98 ∨ k = 107 ∨ k = 108 ∨ k = 109 ∨ k = 116 ∨ k = 118) → ¬ k.toInt = a.toInt := by
    intro k hk e
    obtain rfl := Int32.toInt_inj.mp e
    exact h (by rcases hk with z | z | z | z | z | z <;> simp [cCmd, z])
  show (if (98 : Int) = a.toInt then o1 else if (107 : Int) = a.toInt then o2 else if (108 : Int) = a.toInt then o3 else if (109 : Int) = a.toInt then o4 else if (116 : Int) = a.toInt then o5 else if (118 : Int) = a.toInt then o6 else d) = d
  have r1 : ¬ (98 : Int) = a.toInt := q 98 (by decide)
  have r2 : ¬ (107 : Int) = a.toInt := q 107 (by decide)
  have r3 : ¬ (108 : Int) = a.toInt := q 108 (by decide)
  have r4 : ¬ (109 : Int) = a.toInt := q 109 (by decide)
  have r5 : ¬ (116 : Int) = a.toInt := q 116 (by decide)
  have r6 : ¬ (118 : Int) = a.toInt := q 118 (by decide)
  rw [if_neg r1, if_neg r2, if_neg r3, if_neg r4, if_neg r5, if_neg r6]
def mtX4_isFull : Mt := (yX4_isFull, cX4_isFull, 1, (some .boolean), 0, 0, 0, 0)
theorem kX4_isFull_0 : Dk mtX4_isFull 0 (.aload_n 0) 1 1 := ⟨by decide +kernel, rfl⟩
theorem kX4_isFull_1 : Dk mtX4_isFull 1 (.getfield 19) 3 4 := ⟨by decide +kernel, rfl⟩
theorem kX4_isFull_4 : Dk mtX4_isFull 4 (.aload_n 0) 1 5 := ⟨by decide +kernel, rfl⟩
theorem kX4_isFull_5 : Dk mtX4_isFull 5 (.getfield 11) 3 8 := ⟨by decide +kernel, rfl⟩
theorem kX4_isFull_8 : Dk mtX4_isFull 8 (.arraylength) 1 9 := ⟨by decide +kernel, rfl⟩
theorem kX4_isFull_9 : Dk mtX4_isFull 9 (.if_icmp .lt 7) 3 12 := ⟨by decide +kernel, rfl⟩
theorem kX4_isFull_12 : Dk mtX4_isFull 12 (.iconst 1) 1 13 := ⟨by decide +kernel, rfl⟩
theorem kX4_isFull_13 : Dk mtX4_isFull 13 (.goto 4) 3 16 := ⟨by decide +kernel, rfl⟩
theorem kX4_isFull_16 : Dk mtX4_isFull 16 (.iconst 0) 1 17 := ⟨by decide +kernel, rfl⟩
theorem kX4_isFull_17 : Dk mtX4_isFull 17 (.ireturn) 1 18 := ⟨by decide +kernel, rfl⟩
theorem lfX4_19 : LkF RX4 19 4 2 := Or.inl (by decide +kernel)
theorem lfX4_11 : LkF RX4 11 4 0 := Or.inl (by decide +kernel)
set_option maxHeartbeats 4000000 in
set_option maxRecDepth 100000 in
theorem cl_isFull {l : Launch} {w : Wd} {sg : Sg} (hWr : Wr w) {t n : Nat} {tx : Gs} (hT : TR sg t tx n) : M l mtX4_isFull w [vR (some (4, 0, t))] sg (fI (b01 (n = 120)) sg) := by
  refine M_of [some (vR (some (4, 0, t)))] rfl (Nat.le_of_ble_eq_true rfl) (by decide +kernel) ?_
  intro p_ e_ s_ m_ args_ below_ meth_ c_ hC hO
  refine V_aload_n hC kX4_isFull_0 rfl ?_
  refine V_getI hC 4 2 lfX4_19 kX4_isFull_1 (Nat.le_of_ble_eq_true rfl) (Nat.le_of_ble_eq_true rfl) rfl ?_
  refine V_aload_n hC kX4_isFull_4 rfl ?_
  refine V_getR hC hWr 4 0 lfX4_11 kX4_isFull_5 (Nat.le_of_ble_eq_true rfl) (Nat.le_of_ble_eq_true rfl) rfl ?_
  refine V_alen hC _ kX4_isFull_8 ⟨(Nat.le_of_ble_eq_true rfl), (Nat.le_of_ble_eq_true rfl)⟩ rfl ?_
  refine V_icmp_lt hC 16 kX4_isFull_9 (by decide) (fun h9 => ?_) (fun h9 => ?_)
  · refine V_iconst hC (0) kX4_isFull_16 (by decide) ?_
    refine V_iretz hC rfl kX4_isFull_17 ?_ ?_
    · first | exact Or.inl rfl | exact Or.inr rfl
    · refine ⟨cI ?_, by with_reducible rfl⟩
      rw [hT.1] at h9
      first
      | exact (b01_f (fun z => by rw [z] at h9; exact absurd h9 (by decide))).symm
      | exact (b01_t (Classical.byContradiction (fun z => h9 ((nI_ltI (b := 120) (by have := hT.2.1; omega) (by decide)).mpr (by have := hT.2.1; omega))))).symm
  · refine V_iconst hC (1) kX4_isFull_12 (by decide) ?_
    refine V_goto hC 17 kX4_isFull_13 (by decide) ?_
    refine V_iretz hC rfl kX4_isFull_17 ?_ ?_
    · first | exact Or.inl rfl | exact Or.inr rfl
    · refine ⟨cI ?_, by with_reducible rfl⟩
      rw [hT.1] at h9
      first
      | exact (b01_f (fun z => by rw [z] at h9; exact absurd h9 (by decide))).symm
      | exact (b01_t (Classical.byContradiction (fun z => h9 ((nI_ltI (b := 120) (by have := hT.2.1; omega) (by decide)).mpr (by have := hT.2.1; omega))))).symm
def mtX4_add : Mt := (yX4_add, cX4_add, 2, (some .int), 0, 0, 0, 0)
theorem kX4_add_0 : Dk mtX4_add 0 (.aload_n 0) 1 1 := ⟨by decide +kernel, rfl⟩
theorem kX4_add_1 : Dk mtX4_add 1 (.getfield 19) 3 4 := ⟨by decide +kernel, rfl⟩
theorem kX4_add_4 : Dk mtX4_add 4 (.ifCond .lt 36) 3 7 := ⟨by decide +kernel, rfl⟩
theorem kX4_add_7 : Dk mtX4_add 7 (.aload_n 0) 1 8 := ⟨by decide +kernel, rfl⟩
theorem kX4_add_8 : Dk mtX4_add 8 (.getfield 19) 3 11 := ⟨by decide +kernel, rfl⟩
theorem kX4_add_11 : Dk mtX4_add 11 (.aload_n 0) 1 12 := ⟨by decide +kernel, rfl⟩
theorem kX4_add_12 : Dk mtX4_add 12 (.getfield 11) 3 15 := ⟨by decide +kernel, rfl⟩
theorem kX4_add_15 : Dk mtX4_add 15 (.arraylength) 1 16 := ⟨by decide +kernel, rfl⟩
theorem kX4_add_16 : Dk mtX4_add 16 (.if_icmp .ge 24) 3 19 := ⟨by decide +kernel, rfl⟩
theorem kX4_add_19 : Dk mtX4_add 19 (.aload_n 0) 1 20 := ⟨by decide +kernel, rfl⟩
theorem kX4_add_20 : Dk mtX4_add 20 (.getfield 11) 3 23 := ⟨by decide +kernel, rfl⟩
theorem kX4_add_23 : Dk mtX4_add 23 (.aload_n 0) 1 24 := ⟨by decide +kernel, rfl⟩
theorem kX4_add_24 : Dk mtX4_add 24 (.getfield 19) 3 27 := ⟨by decide +kernel, rfl⟩
theorem kX4_add_27 : Dk mtX4_add 27 (.iload_n 1) 1 28 := ⟨by decide +kernel, rfl⟩
theorem kX4_add_28 : Dk mtX4_add 28 (.i2c) 1 29 := ⟨by decide +kernel, rfl⟩
theorem kX4_add_29 : Dk mtX4_add 29 (.castore) 1 30 := ⟨by decide +kernel, rfl⟩
theorem kX4_add_30 : Dk mtX4_add 30 (.aload_n 0) 1 31 := ⟨by decide +kernel, rfl⟩
theorem kX4_add_31 : Dk mtX4_add 31 (.dup) 1 32 := ⟨by decide +kernel, rfl⟩
theorem kX4_add_32 : Dk mtX4_add 32 (.getfield 19) 3 35 := ⟨by decide +kernel, rfl⟩
theorem kX4_add_35 : Dk mtX4_add 35 (.iconst 1) 1 36 := ⟨by decide +kernel, rfl⟩
theorem kX4_add_36 : Dk mtX4_add 36 (.iadd) 1 37 := ⟨by decide +kernel, rfl⟩
theorem kX4_add_37 : Dk mtX4_add 37 (.putfield 19) 3 40 := ⟨by decide +kernel, rfl⟩
theorem kX4_add_40 : Dk mtX4_add 40 (.aload_n 0) 1 41 := ⟨by decide +kernel, rfl⟩
theorem kX4_add_41 : Dk mtX4_add 41 (.getfield 19) 3 44 := ⟨by decide +kernel, rfl⟩
theorem kX4_add_44 : Dk mtX4_add 44 (.ireturn) 1 45 := ⟨by decide +kernel, rfl⟩
set_option maxHeartbeats 4000000 in
set_option maxRecDepth 100000 in
theorem cl_add {l : Launch} {w : Wd} {sg : Sg} (hWr : Wr w) {t n : Nat} {tx : Gs} (hT : TR sg t tx n) (hn : n < 120) {m : Nat} (hm : m < 256) : M l mtX4_add w [vR (some (4, 0, t)), vI (nI m)] sg (fI (nI (n + 1)) (ups (upr sg (t + 1) (upd (sg (t + 1)) n (nI m))) t 2 (nI (n + 1)))) := by
  refine M_of [some (vR (some (4, 0, t))), some (vI (nI m))] rfl (Nat.le_of_ble_eq_true rfl) (by decide +kernel) ?_
  intro p_ e_ s_ m_ args_ below_ meth_ c_ hC hO
  refine V_aload_n hC kX4_add_0 rfl ?_
  refine V_getI hC 4 2 lfX4_19 kX4_add_1 (Nat.le_of_ble_eq_true rfl) (Nat.le_of_ble_eq_true rfl) rfl ?_
  refine V_if_lt hC 40 kX4_add_4 (by decide) (fun h4 => absurd h4 (Int32.not_lt.mpr (by rw [hT.1]; exact nI_pos' (by omega)))) (fun h4 => ?_)
  refine V_aload_n hC kX4_add_7 rfl ?_
  refine V_getI hC 4 2 lfX4_19 kX4_add_8 (Nat.le_of_ble_eq_true rfl) (Nat.le_of_ble_eq_true rfl) rfl ?_
  refine V_aload_n hC kX4_add_11 rfl ?_
  refine V_getR hC hWr 4 0 lfX4_11 kX4_add_12 (Nat.le_of_ble_eq_true rfl) (Nat.le_of_ble_eq_true rfl) rfl ?_
  refine V_alen hC _ kX4_add_15 ⟨(Nat.le_of_ble_eq_true rfl), (Nat.le_of_ble_eq_true rfl)⟩ rfl ?_
  refine V_icmp_ge hC 40 kX4_add_16 (by decide) (fun h16 => absurd h16 (by rw [hT.1]; exact nI_ge hn (by decide))) (fun h16 => ?_)
  refine V_aload_n hC kX4_add_19 rfl ?_
  refine V_getR hC hWr 4 0 lfX4_11 kX4_add_20 (Nat.le_of_ble_eq_true rfl) (Nat.le_of_ble_eq_true rfl) rfl ?_
  refine V_aload_n hC kX4_add_23 rfl ?_
  refine V_getI hC 4 2 lfX4_19 kX4_add_24 (Nat.le_of_ble_eq_true rfl) (Nat.le_of_ble_eq_true rfl) rfl ?_
  refine V_iload_n hC kX4_add_27 rfl ?_
  refine V_i2c hC kX4_add_28 ?_
  rw [pk_char, show (nI m).toBitVec.toNat % 65536 = m by show (BitVec.ofNat 32 m).toNat % 65536 = m; rw [BitVec.toNat_ofNat]; omega]
  refine V_cast hC n (by rw [hT.1]; exact nI_clamp (by omega)) kX4_add_29 (by rw [hT.1]; exact vp_in_nI hn (by decide)) (by rw [vp_nar_char]; exact fb_char (by omega)) ?_
  refine V_aload_n hC kX4_add_30 rfl ?_
  refine V_dup hC kX4_add_31 rfl ?_
  refine V_getI hC 4 2 lfX4_19 kX4_add_32 (Nat.le_of_ble_eq_true rfl) (Nat.le_of_ble_eq_true rfl) rfl ?_
  refine V_iconst hC (1) kX4_add_35 (by decide) ?_
  refine V_iadd hC kX4_add_36 ?_
  refine V_putI hC 4 2 lfX4_19 kX4_add_37 (Nat.le_of_ble_eq_true rfl) (Nat.le_of_ble_eq_true rfl) rfl rfl ⟨rfl, rfl⟩ ?_
  refine V_aload_n hC kX4_add_40 rfl ?_
  refine V_getI hC 4 2 lfX4_19 kX4_add_41 (Nat.le_of_ble_eq_true rfl) (Nat.le_of_ble_eq_true rfl) rfl ?_
  refine V_ireti hC rfl kX4_add_44 ?_
  have e : ups sg (t + 1) n (nI m) t 2 = nI n := by rw [ups_ne _ _ _ (by omega), hT.1]
  refine ⟨cI ?_, ?_⟩
  · rw [ups_v, if_pos ⟨rfl, rfl⟩, e, nI_1]
  · rw [e, nI_1]
    rfl
def mtX4_empty : Mt := (yX4_empty, cX4_empty, 2, (some .int), 0, 0, 0, 0)
theorem kX4_empty_0 : Dk mtX4_empty 0 (.aload_n 0) 1 1 := ⟨by decide +kernel, rfl⟩
theorem kX4_empty_1 : Dk mtX4_empty 1 (.getfield 19) 3 4 := ⟨by decide +kernel, rfl⟩
theorem kX4_empty_4 : Dk mtX4_empty 4 (.istore_n 1) 1 5 := ⟨by decide +kernel, rfl⟩
theorem kX4_empty_5 : Dk mtX4_empty 5 (.aload_n 0) 1 6 := ⟨by decide +kernel, rfl⟩
theorem kX4_empty_6 : Dk mtX4_empty 6 (.iconst 0) 1 7 := ⟨by decide +kernel, rfl⟩
theorem kX4_empty_7 : Dk mtX4_empty 7 (.putfield 19) 3 10 := ⟨by decide +kernel, rfl⟩
theorem kX4_empty_10 : Dk mtX4_empty 10 (.iload_n 1) 1 11 := ⟨by decide +kernel, rfl⟩
theorem kX4_empty_11 : Dk mtX4_empty 11 (.ireturn) 1 12 := ⟨by decide +kernel, rfl⟩
set_option maxHeartbeats 4000000 in
set_option maxRecDepth 100000 in
theorem cl_empty {l : Launch} {w : Wd} {sg : Sg} (hWr : Wr w) {t n : Nat} {tx : Gs} (hT : TR sg t tx n) : M l mtX4_empty w [vR (some (4, 0, t))] sg (fI (nI n) (ups sg t 2 0)) := by
  refine M_of [some (vR (some (4, 0, t))), none] rfl (Nat.le_of_ble_eq_true rfl) (by decide +kernel) ?_
  intro p_ e_ s_ m_ args_ below_ meth_ c_ hC hO
  refine V_aload_n hC kX4_empty_0 rfl ?_
  refine V_getI hC 4 2 lfX4_19 kX4_empty_1 (Nat.le_of_ble_eq_true rfl) (Nat.le_of_ble_eq_true rfl) rfl ?_
  refine V_nameI (fun ln e_ln => ?_)
  refine V_istore_n hC [some _, some _] kX4_empty_4 rfl (Nat.le_of_ble_eq_true rfl) ?_
  refine V_aload_n hC kX4_empty_5 rfl ?_
  refine V_iconst hC (0) kX4_empty_6 (by decide) ?_
  refine V_putI hC 4 2 lfX4_19 kX4_empty_7 (Nat.le_of_ble_eq_true rfl) (Nat.le_of_ble_eq_true rfl) rfl rfl ⟨rfl, rfl⟩ ?_
  refine V_iload_n hC kX4_empty_10 rfl ?_
  refine V_ireti hC rfl kX4_empty_11 ?_
  exact ⟨cI (e_ln.trans hT.1), by with_reducible rfl⟩
def mtX4_hasMore : Mt := (yX4_hasMore, cX4_hasMore, 1, (some .boolean), 0, 0, 0, 0)
theorem kX4_hasMore_0 : Dk mtX4_hasMore 0 (.aload_n 0) 1 1 := ⟨by decide +kernel, rfl⟩
theorem kX4_hasMore_1 : Dk mtX4_hasMore 1 (.getfield 33) 3 4 := ⟨by decide +kernel, rfl⟩
theorem kX4_hasMore_4 : Dk mtX4_hasMore 4 (.aload_n 0) 1 5 := ⟨by decide +kernel, rfl⟩
theorem kX4_hasMore_5 : Dk mtX4_hasMore 5 (.getfield 19) 3 8 := ⟨by decide +kernel, rfl⟩
theorem kX4_hasMore_8 : Dk mtX4_hasMore 8 (.if_icmp .ge 7) 3 11 := ⟨by decide +kernel, rfl⟩
theorem kX4_hasMore_11 : Dk mtX4_hasMore 11 (.iconst 1) 1 12 := ⟨by decide +kernel, rfl⟩
theorem kX4_hasMore_12 : Dk mtX4_hasMore 12 (.goto 4) 3 15 := ⟨by decide +kernel, rfl⟩
theorem kX4_hasMore_15 : Dk mtX4_hasMore 15 (.iconst 0) 1 16 := ⟨by decide +kernel, rfl⟩
theorem kX4_hasMore_16 : Dk mtX4_hasMore 16 (.ireturn) 1 17 := ⟨by decide +kernel, rfl⟩
theorem lfX4_33 : LkF RX4 33 4 3 := Or.inl (by decide +kernel)
set_option maxHeartbeats 4000000 in
set_option maxRecDepth 100000 in
theorem cl_hasMore {l : Launch} {w : Wd} {sg : Sg} (hWr : Wr w) {t n a : Nat} (hl : sg t 2 = nI n) (ha : sg t 3 = nI a) (hn : n ≤ 120) (han : a ≤ n) : M l mtX4_hasMore w [vR (some (4, 0, t))] sg (fI (b01 (a < n)) sg) := by
  refine M_of [some (vR (some (4, 0, t)))] rfl (Nat.le_of_ble_eq_true rfl) (by decide +kernel) ?_
  intro p_ e_ s_ m_ args_ below_ meth_ c_ hC hO
  refine V_aload_n hC kX4_hasMore_0 rfl ?_
  refine V_getI hC 4 3 lfX4_33 kX4_hasMore_1 (Nat.le_of_ble_eq_true rfl) (Nat.le_of_ble_eq_true rfl) rfl ?_
  refine V_aload_n hC kX4_hasMore_4 rfl ?_
  refine V_getI hC 4 2 lfX4_19 kX4_hasMore_5 (Nat.le_of_ble_eq_true rfl) (Nat.le_of_ble_eq_true rfl) rfl ?_
  refine V_icmp_ge hC 15 kX4_hasMore_8 (by decide) (fun h8 => ?_) (fun h8 => ?_)
  · refine V_iconst hC (0) kX4_hasMore_15 (by decide) ?_
    refine V_iretz hC rfl kX4_hasMore_16 ?_ ?_
    · first | exact Or.inl rfl | exact Or.inr rfl
    · refine ⟨cI ?_, by with_reducible rfl⟩
      rw [hl, ha] at h8
      first
      | exact (b01_f (fun z => nI_ge z (by omega) h8)).symm
      | exact (b01_t (Classical.byContradiction (fun z => h8 (nI_le (by omega) (by omega))))).symm
  · refine V_iconst hC (1) kX4_hasMore_11 (by decide) ?_
    refine V_goto hC 16 kX4_hasMore_12 (by decide) ?_
    refine V_iretz hC rfl kX4_hasMore_16 ?_ ?_
    · first | exact Or.inl rfl | exact Or.inr rfl
    · refine ⟨cI ?_, by with_reducible rfl⟩
      rw [hl, ha] at h8
      first
      | exact (b01_f (fun z => nI_ge z (by omega) h8)).symm
      | exact (b01_t (Classical.byContradiction (fun z => h8 (nI_le (by omega) (by omega))))).symm
def mtX4_signAt : Mt := (yX4_signAt, cX4_signAt, 2, (some .int), 0, 0, 0, 0)
theorem kX4_signAt_0 : Dk mtX4_signAt 0 (.iload_n 1) 1 1 := ⟨by decide +kernel, rfl⟩
theorem kX4_signAt_1 : Dk mtX4_signAt 1 (.ifCond .lt 29) 3 4 := ⟨by decide +kernel, rfl⟩
theorem kX4_signAt_4 : Dk mtX4_signAt 4 (.iload_n 1) 1 5 := ⟨by decide +kernel, rfl⟩
theorem kX4_signAt_5 : Dk mtX4_signAt 5 (.aload_n 0) 1 6 := ⟨by decide +kernel, rfl⟩
theorem kX4_signAt_6 : Dk mtX4_signAt 6 (.getfield 19) 3 9 := ⟨by decide +kernel, rfl⟩
theorem kX4_signAt_9 : Dk mtX4_signAt 9 (.if_icmp .ge 21) 3 12 := ⟨by decide +kernel, rfl⟩
theorem kX4_signAt_12 : Dk mtX4_signAt 12 (.iload_n 1) 1 13 := ⟨by decide +kernel, rfl⟩
theorem kX4_signAt_13 : Dk mtX4_signAt 13 (.aload_n 0) 1 14 := ⟨by decide +kernel, rfl⟩
theorem kX4_signAt_14 : Dk mtX4_signAt 14 (.getfield 11) 3 17 := ⟨by decide +kernel, rfl⟩
theorem kX4_signAt_17 : Dk mtX4_signAt 17 (.arraylength) 1 18 := ⟨by decide +kernel, rfl⟩
theorem kX4_signAt_18 : Dk mtX4_signAt 18 (.if_icmp .ge 12) 3 21 := ⟨by decide +kernel, rfl⟩
theorem kX4_signAt_21 : Dk mtX4_signAt 21 (.aload_n 0) 1 22 := ⟨by decide +kernel, rfl⟩
theorem kX4_signAt_22 : Dk mtX4_signAt 22 (.getfield 11) 3 25 := ⟨by decide +kernel, rfl⟩
theorem kX4_signAt_25 : Dk mtX4_signAt 25 (.iload_n 1) 1 26 := ⟨by decide +kernel, rfl⟩
theorem kX4_signAt_26 : Dk mtX4_signAt 26 (.caload) 1 27 := ⟨by decide +kernel, rfl⟩
theorem kX4_signAt_27 : Dk mtX4_signAt 27 (.goto 4) 3 30 := ⟨by decide +kernel, rfl⟩
theorem kX4_signAt_30 : Dk mtX4_signAt 30 (.iconst (-1)) 1 31 := ⟨by decide +kernel, rfl⟩
theorem kX4_signAt_31 : Dk mtX4_signAt 31 (.ireturn) 1 32 := ⟨by decide +kernel, rfl⟩
set_option maxHeartbeats 4000000 in
set_option maxRecDepth 100000 in
theorem cl_signAt {l : Launch} {w : Wd} {sg : Sg} (hWr : Wr w) {t n : Nat} {tx : Gs} (hT : TR sg t tx n) {i : Nat} {a : Int32} (ea : a = nI i) (hi : i ≤ 120) : M l mtX4_signAt w [vR (some (4, 0, t)), vI a] sg (fI (cSg tx n i) sg) := by
  refine M_of [some (vR (some (4, 0, t))), some (vI a)] rfl (Nat.le_of_ble_eq_true rfl) (by decide +kernel) ?_
  intro p_ e_ s_ m_ args_ below_ meth_ c_ hC hO
  subst ea
  have hn := hT.2.1
  refine V_iload_n hC kX4_signAt_0 rfl ?_
  refine V_if_lt hC 30 kX4_signAt_1 (by decide) (fun h1 => absurd h1 (Int32.not_lt.mpr (nI_pos' (by omega)))) (fun h1 => ?_)
  refine V_iload_n hC kX4_signAt_4 rfl ?_
  refine V_aload_n hC kX4_signAt_5 rfl ?_
  refine V_getI hC 4 2 lfX4_19 kX4_signAt_6 (Nat.le_of_ble_eq_true rfl) (Nat.le_of_ble_eq_true rfl) rfl ?_
  refine V_icmp_ge hC 30 kX4_signAt_9 (by decide) (fun h9 => ?_) (fun h9 => ?_)
  · refine V_iconst hC (-1) kX4_signAt_30 (by decide) ?_
    refine V_ireti hC rfl kX4_signAt_31 ?_
    refine ⟨cI ?_, by with_reducible rfl⟩
    unfold cSg
    first
    | (rw [if_neg (fun z => nI_ge z (by omega) (by rw [hT.1] at h9; exact h9))]; done)
    | (rw [if_pos hin, hT.2.2.1 i hin]; done)
  · refine V_iload_n hC kX4_signAt_12 rfl ?_
    refine V_aload_n hC kX4_signAt_13 rfl ?_
    refine V_getR hC hWr 4 0 lfX4_11 kX4_signAt_14 (Nat.le_of_ble_eq_true rfl) (Nat.le_of_ble_eq_true rfl) rfl ?_
    refine V_alen hC _ kX4_signAt_17 ⟨(Nat.le_of_ble_eq_true rfl), (Nat.le_of_ble_eq_true rfl)⟩ rfl ?_
    have hin : i < n := Classical.byContradiction (fun z => h9 (by rw [hT.1]; exact nI_le (by omega) (by omega)))
    refine V_icmp_ge hC 30 kX4_signAt_18 (by decide) (fun h18 => absurd h18 (nI_ge (by omega) (by decide))) (fun h18 => ?_)
    refine V_aload_n hC kX4_signAt_21 rfl ?_
    refine V_getR hC hWr 4 0 lfX4_11 kX4_signAt_22 (Nat.le_of_ble_eq_true rfl) (Nat.le_of_ble_eq_true rfl) rfl ?_
    refine V_iload_n hC kX4_signAt_25 rfl ?_
    refine V_cald hC i (nI_clamp (by omega)) kX4_signAt_26 (vp_in_nI (by omega) (by decide)) ?_
    refine V_goto hC 31 kX4_signAt_27 (by decide) ?_
    refine V_ireti hC rfl kX4_signAt_31 ?_
    refine ⟨cI ?_, by with_reducible rfl⟩
    unfold cSg
    first
    | (rw [if_neg (fun z => nI_ge z (by omega) (by rw [hT.1] at h9; exact h9))]; done)
    | (rw [if_pos hin, hT.2.2.1 i hin]; done)
def mtX4_number : Mt := (yX4_number, cX4_number, 2, (some .int), 0, 0, 0, 0)
theorem kX4_number_0 : Dk mtX4_number 0 (.iload_n 1) 1 1 := ⟨by decide +kernel, rfl⟩
theorem kX4_number_1 : Dk mtX4_number 1 (.ifCond .lt 21) 3 4 := ⟨by decide +kernel, rfl⟩
theorem kX4_number_4 : Dk mtX4_number 4 (.iload_n 1) 1 5 := ⟨by decide +kernel, rfl⟩
theorem kX4_number_5 : Dk mtX4_number 5 (.aload_n 0) 1 6 := ⟨by decide +kernel, rfl⟩
theorem kX4_number_6 : Dk mtX4_number 6 (.getfield 15) 3 9 := ⟨by decide +kernel, rfl⟩
theorem kX4_number_9 : Dk mtX4_number 9 (.arraylength) 1 10 := ⟨by decide +kernel, rfl⟩
theorem kX4_number_10 : Dk mtX4_number 10 (.if_icmp .ge 12) 3 13 := ⟨by decide +kernel, rfl⟩
theorem kX4_number_13 : Dk mtX4_number 13 (.aload_n 0) 1 14 := ⟨by decide +kernel, rfl⟩
theorem kX4_number_14 : Dk mtX4_number 14 (.getfield 15) 3 17 := ⟨by decide +kernel, rfl⟩
theorem kX4_number_17 : Dk mtX4_number 17 (.iload_n 1) 1 18 := ⟨by decide +kernel, rfl⟩
theorem kX4_number_18 : Dk mtX4_number 18 (.iaload) 1 19 := ⟨by decide +kernel, rfl⟩
theorem kX4_number_19 : Dk mtX4_number 19 (.goto 4) 3 22 := ⟨by decide +kernel, rfl⟩
theorem kX4_number_22 : Dk mtX4_number 22 (.iconst 0) 1 23 := ⟨by decide +kernel, rfl⟩
theorem kX4_number_23 : Dk mtX4_number 23 (.ireturn) 1 24 := ⟨by decide +kernel, rfl⟩
theorem lfX4_15 : LkF RX4 15 4 1 := Or.inl (by decide +kernel)
set_option maxHeartbeats 4000000 in
set_option maxRecDepth 100000 in
theorem cl_number {l : Launch} {w : Wd} {sg : Sg} (hWr : Wr w) {t i : Nat} {a : Int32} (hi : i < 6) (ea : a = nI i) : M l mtX4_number w [vR (some (4, 0, t)), vI a] sg (fI (sg (t + 2) i) sg) := by
  refine M_of [some (vR (some (4, 0, t))), some (vI a)] rfl (Nat.le_of_ble_eq_true rfl) (by decide +kernel) ?_
  intro p_ e_ s_ m_ args_ below_ meth_ c_ hC hO
  subst ea
  refine V_iload_n hC kX4_number_0 rfl ?_
  refine V_if_lt hC 22 kX4_number_1 (by decide) (fun h1 => absurd h1 (Int32.not_lt.mpr (nI_pos' (by omega)))) (fun h1 => ?_)
  refine V_iload_n hC kX4_number_4 rfl ?_
  refine V_aload_n hC kX4_number_5 rfl ?_
  refine V_getR hC hWr 4 1 lfX4_15 kX4_number_6 (Nat.le_of_ble_eq_true rfl) (Nat.le_of_ble_eq_true rfl) rfl ?_
  refine V_alen hC _ kX4_number_9 ⟨(Nat.le_of_ble_eq_true rfl), (Nat.le_of_ble_eq_true rfl)⟩ rfl ?_
  refine V_icmp_ge hC 22 kX4_number_10 (by decide) (fun h10 => absurd h10 (nI_ge hi (by decide))) (fun h10 => ?_)
  refine V_aload_n hC kX4_number_13 rfl ?_
  refine V_getR hC hWr 4 1 lfX4_15 kX4_number_14 (Nat.le_of_ble_eq_true rfl) (Nat.le_of_ble_eq_true rfl) rfl ?_
  refine V_iload_n hC kX4_number_17 rfl ?_
  refine V_iald hC i (nI_clamp (by omega)) kX4_number_18 (vp_in_nI hi (by decide)) ?_
  refine V_goto hC 23 kX4_number_19 (by decide) ?_
  refine V_ireti hC rfl kX4_number_23 ?_
  exact ⟨by with_reducible rfl, by with_reducible rfl⟩
def mtX4_formOf : Mt := (yX4_formOf, cX4_formOf, 1, (some (.array .int)), 0, 0, 0, 0)
theorem kX4_formOf_0 : Dk mtX4_formOf 0 (.iload_n 0) 1 1 := ⟨by decide +kernel, rfl⟩
theorem kX4_formOf_1 : Dk mtX4_formOf 1 (.lookupswitch 83 #[(98, 63), (107, 67), (108, 59), (109, 75), (116, 79), (118, 71)]) 59 60 := ⟨by decide +kernel, rfl⟩
theorem kX4_formOf_60 : Dk mtX4_formOf 60 (.getstatic 51) 3 63 := ⟨by decide +kernel, rfl⟩
theorem kX4_formOf_63 : Dk mtX4_formOf 63 (.areturn) 1 64 := ⟨by decide +kernel, rfl⟩
theorem kX4_formOf_64 : Dk mtX4_formOf 64 (.getstatic 54) 3 67 := ⟨by decide +kernel, rfl⟩
theorem kX4_formOf_67 : Dk mtX4_formOf 67 (.areturn) 1 68 := ⟨by decide +kernel, rfl⟩
theorem kX4_formOf_68 : Dk mtX4_formOf 68 (.getstatic 57) 3 71 := ⟨by decide +kernel, rfl⟩
theorem kX4_formOf_71 : Dk mtX4_formOf 71 (.areturn) 1 72 := ⟨by decide +kernel, rfl⟩
theorem kX4_formOf_72 : Dk mtX4_formOf 72 (.getstatic 60) 3 75 := ⟨by decide +kernel, rfl⟩
theorem kX4_formOf_75 : Dk mtX4_formOf 75 (.areturn) 1 76 := ⟨by decide +kernel, rfl⟩
theorem kX4_formOf_76 : Dk mtX4_formOf 76 (.getstatic 63) 3 79 := ⟨by decide +kernel, rfl⟩
theorem kX4_formOf_79 : Dk mtX4_formOf 79 (.areturn) 1 80 := ⟨by decide +kernel, rfl⟩
theorem kX4_formOf_80 : Dk mtX4_formOf 80 (.getstatic 66) 3 83 := ⟨by decide +kernel, rfl⟩
theorem kX4_formOf_83 : Dk mtX4_formOf 83 (.areturn) 1 84 := ⟨by decide +kernel, rfl⟩
theorem kX4_formOf_84 : Dk mtX4_formOf 84 (.aconst_null) 1 85 := ⟨by decide +kernel, rfl⟩
theorem kX4_formOf_85 : Dk mtX4_formOf 85 (.areturn) 1 86 := ⟨by decide +kernel, rfl⟩
set_option maxHeartbeats 4000000 in
set_option maxRecDepth 100000 in
theorem cl_formOf {l : Launch} {w : Wd} {sg : Sg} (hWr : Wr w) (a : Int32) : M l mtX4_formOf w [vI a] sg (fR (if cCmd a then some (20, slen (kx a), 1000000 + kx a) else none) sg) := by
  refine M_of [some (vI a)] rfl (Nat.le_of_ble_eq_true rfl) (by decide +kernel) ?_
  intro p_ e_ s_ m_ args_ below_ meth_ c_ hC hO
  rcases Classical.em (cCmd a) with (rfl | rfl | rfl | rfl | rfl | rfl) | hc
  · refine V_iload_n hC kX4_formOf_0 rfl ?_
    refine V_lookup hC (59) 60 kX4_formOf_1 rfl rfl (by decide) ?_
    refine V_gets hC 3 (by decide +kernel) kX4_formOf_60 (Nat.le_of_ble_eq_true rfl) ?_
    refine V_aret hC rfl (Or.inr ⟨_, rfl⟩) kX4_formOf_63 ?_
    refine ⟨?_, by with_reducible rfl⟩
    rw [if_pos (by decide +kernel)]
    rfl
  · refine V_iload_n hC kX4_formOf_0 rfl ?_
    refine V_lookup hC (63) 64 kX4_formOf_1 rfl rfl (by decide) ?_
    refine V_gets hC 4 (by decide +kernel) kX4_formOf_64 (Nat.le_of_ble_eq_true rfl) ?_
    refine V_aret hC rfl (Or.inr ⟨_, rfl⟩) kX4_formOf_67 ?_
    refine ⟨?_, by with_reducible rfl⟩
    rw [if_pos (by decide +kernel)]
    rfl
  · refine V_iload_n hC kX4_formOf_0 rfl ?_
    refine V_lookup hC (67) 68 kX4_formOf_1 rfl rfl (by decide) ?_
    refine V_gets hC 5 (by decide +kernel) kX4_formOf_68 (Nat.le_of_ble_eq_true rfl) ?_
    refine V_aret hC rfl (Or.inr ⟨_, rfl⟩) kX4_formOf_71 ?_
    refine ⟨?_, by with_reducible rfl⟩
    rw [if_pos (by decide +kernel)]
    rfl
  · refine V_iload_n hC kX4_formOf_0 rfl ?_
    refine V_lookup hC (71) 72 kX4_formOf_1 rfl rfl (by decide) ?_
    refine V_gets hC 6 (by decide +kernel) kX4_formOf_72 (Nat.le_of_ble_eq_true rfl) ?_
    refine V_aret hC rfl (Or.inr ⟨_, rfl⟩) kX4_formOf_75 ?_
    refine ⟨?_, by with_reducible rfl⟩
    rw [if_pos (by decide +kernel)]
    rfl
  · refine V_iload_n hC kX4_formOf_0 rfl ?_
    refine V_lookup hC (75) 76 kX4_formOf_1 rfl rfl (by decide) ?_
    refine V_gets hC 7 (by decide +kernel) kX4_formOf_76 (Nat.le_of_ble_eq_true rfl) ?_
    refine V_aret hC rfl (Or.inr ⟨_, rfl⟩) kX4_formOf_79 ?_
    refine ⟨?_, by with_reducible rfl⟩
    rw [if_pos (by decide +kernel)]
    rfl
  · refine V_iload_n hC kX4_formOf_0 rfl ?_
    refine V_lookup hC (79) 80 kX4_formOf_1 rfl rfl (by decide) ?_
    refine V_gets hC 8 (by decide +kernel) kX4_formOf_80 (Nat.le_of_ble_eq_true rfl) ?_
    refine V_aret hC rfl (Or.inr ⟨_, rfl⟩) kX4_formOf_83 ?_
    refine ⟨?_, by with_reducible rfl⟩
    rw [if_pos (by decide +kernel)]
    rfl
  · refine V_iload_n hC kX4_formOf_0 rfl ?_
    refine V_lookup hC (83) 84 kX4_formOf_1 rfl (look_no hc) (by decide) ?_
    refine V_null hC kX4_formOf_84 ?_
    refine V_aret hC rfl (Or.inr ⟨_, rfl⟩) kX4_formOf_85 ?_
    rw [if_neg hc]
    exact ⟨by with_reducible rfl, by with_reducible rfl⟩
def mtX4_readNumber : Mt := (yX4_readNumber, cX4_readNumber, 8, (some .int), 1, 21, 0, 0)
theorem kX4_readNumber_0 : Dk mtX4_readNumber 0 (.iconst 1) 1 1 := ⟨by decide +kernel, rfl⟩
theorem kX4_readNumber_1 : Dk mtX4_readNumber 1 (.istore 4) 2 3 := ⟨by decide +kernel, rfl⟩
theorem kX4_readNumber_3 : Dk mtX4_readNumber 3 (.iconst 0) 1 4 := ⟨by decide +kernel, rfl⟩
theorem kX4_readNumber_4 : Dk mtX4_readNumber 4 (.istore 5) 2 6 := ⟨by decide +kernel, rfl⟩
theorem kX4_readNumber_6 : Dk mtX4_readNumber 6 (.iload 5) 2 8 := ⟨by decide +kernel, rfl⟩
theorem kX4_readNumber_8 : Dk mtX4_readNumber 8 (.iload_n 1) 1 9 := ⟨by decide +kernel, rfl⟩
theorem kX4_readNumber_9 : Dk mtX4_readNumber 9 (.if_icmp .ge 16) 3 12 := ⟨by decide +kernel, rfl⟩
theorem kX4_readNumber_12 : Dk mtX4_readNumber 12 (.iload 4) 2 14 := ⟨by decide +kernel, rfl⟩
theorem kX4_readNumber_14 : Dk mtX4_readNumber 14 (.bipush 10) 2 16 := ⟨by decide +kernel, rfl⟩
theorem kX4_readNumber_16 : Dk mtX4_readNumber 16 (.imul) 1 17 := ⟨by decide +kernel, rfl⟩
theorem kX4_readNumber_17 : Dk mtX4_readNumber 17 (.istore 4) 2 19 := ⟨by decide +kernel, rfl⟩
theorem kX4_readNumber_19 : Dk mtX4_readNumber 19 (.iinc 5 1) 3 22 := ⟨by decide +kernel, rfl⟩
theorem kX4_readNumber_22 : Dk mtX4_readNumber 22 (.goto (-16)) 3 25 := ⟨by decide +kernel, rfl⟩
theorem kX4_readNumber_25 : Dk mtX4_readNumber 25 (.iconst 0) 1 26 := ⟨by decide +kernel, rfl⟩
theorem kX4_readNumber_26 : Dk mtX4_readNumber 26 (.istore 5) 2 28 := ⟨by decide +kernel, rfl⟩
theorem kX4_readNumber_28 : Dk mtX4_readNumber 28 (.iconst 0) 1 29 := ⟨by decide +kernel, rfl⟩
theorem kX4_readNumber_29 : Dk mtX4_readNumber 29 (.istore 6) 2 31 := ⟨by decide +kernel, rfl⟩
theorem kX4_readNumber_31 : Dk mtX4_readNumber 31 (.iload 6) 2 33 := ⟨by decide +kernel, rfl⟩
theorem kX4_readNumber_33 : Dk mtX4_readNumber 33 (.iload_n 1) 1 34 := ⟨by decide +kernel, rfl⟩
theorem kX4_readNumber_34 : Dk mtX4_readNumber 34 (.if_icmp .ge 82) 3 37 := ⟨by decide +kernel, rfl⟩
theorem kX4_readNumber_37 : Dk mtX4_readNumber 37 (.aload_n 0) 1 38 := ⟨by decide +kernel, rfl⟩
theorem kX4_readNumber_38 : Dk mtX4_readNumber 38 (.aload_n 0) 1 39 := ⟨by decide +kernel, rfl⟩
theorem kX4_readNumber_39 : Dk mtX4_readNumber 39 (.getfield 33) 3 42 := ⟨by decide +kernel, rfl⟩
theorem kX4_readNumber_42 : Dk mtX4_readNumber 42 (.invokevirtual 36) 3 45 := ⟨by decide +kernel, rfl⟩
theorem kX4_readNumber_45 : Dk mtX4_readNumber 45 (.bipush 48) 2 47 := ⟨by decide +kernel, rfl⟩
theorem kX4_readNumber_47 : Dk mtX4_readNumber 47 (.isub) 1 48 := ⟨by decide +kernel, rfl⟩
theorem kX4_readNumber_48 : Dk mtX4_readNumber 48 (.istore 7) 2 50 := ⟨by decide +kernel, rfl⟩
theorem kX4_readNumber_50 : Dk mtX4_readNumber 50 (.iload 7) 2 52 := ⟨by decide +kernel, rfl⟩
theorem kX4_readNumber_52 : Dk mtX4_readNumber 52 (.ifCond .lt 10) 3 55 := ⟨by decide +kernel, rfl⟩
theorem kX4_readNumber_55 : Dk mtX4_readNumber 55 (.iload 7) 2 57 := ⟨by decide +kernel, rfl⟩
theorem kX4_readNumber_57 : Dk mtX4_readNumber 57 (.bipush 9) 2 59 := ⟨by decide +kernel, rfl⟩
theorem kX4_readNumber_59 : Dk mtX4_readNumber 59 (.if_icmp .le 5) 3 62 := ⟨by decide +kernel, rfl⟩
theorem kX4_readNumber_62 : Dk mtX4_readNumber 62 (.iconst (-1)) 1 63 := ⟨by decide +kernel, rfl⟩
theorem kX4_readNumber_63 : Dk mtX4_readNumber 63 (.ireturn) 1 64 := ⟨by decide +kernel, rfl⟩
theorem kX4_readNumber_64 : Dk mtX4_readNumber 64 (.iload 4) 2 66 := ⟨by decide +kernel, rfl⟩
theorem kX4_readNumber_66 : Dk mtX4_readNumber 66 (.bipush 10) 2 68 := ⟨by decide +kernel, rfl⟩
theorem kX4_readNumber_68 : Dk mtX4_readNumber 68 (.idiv) 1 69 := ⟨by decide +kernel, rfl⟩
theorem kX4_readNumber_69 : Dk mtX4_readNumber 69 (.istore 4) 2 71 := ⟨by decide +kernel, rfl⟩
theorem kX4_readNumber_71 : Dk mtX4_readNumber 71 (.iload 5) 2 73 := ⟨by decide +kernel, rfl⟩
theorem kX4_readNumber_73 : Dk mtX4_readNumber 73 (.iload 7) 2 75 := ⟨by decide +kernel, rfl⟩
theorem kX4_readNumber_75 : Dk mtX4_readNumber 75 (.iload 4) 2 77 := ⟨by decide +kernel, rfl⟩
theorem kX4_readNumber_77 : Dk mtX4_readNumber 77 (.imul) 1 78 := ⟨by decide +kernel, rfl⟩
theorem kX4_readNumber_78 : Dk mtX4_readNumber 78 (.iadd) 1 79 := ⟨by decide +kernel, rfl⟩
theorem kX4_readNumber_79 : Dk mtX4_readNumber 79 (.istore 5) 2 81 := ⟨by decide +kernel, rfl⟩
theorem kX4_readNumber_81 : Dk mtX4_readNumber 81 (.iload 5) 2 83 := ⟨by decide +kernel, rfl⟩
theorem kX4_readNumber_83 : Dk mtX4_readNumber 83 (.iload_n 3) 1 84 := ⟨by decide +kernel, rfl⟩
theorem kX4_readNumber_84 : Dk mtX4_readNumber 84 (.if_icmp .gt 14) 3 87 := ⟨by decide +kernel, rfl⟩
theorem kX4_readNumber_87 : Dk mtX4_readNumber 87 (.iload 5) 2 89 := ⟨by decide +kernel, rfl⟩
theorem kX4_readNumber_89 : Dk mtX4_readNumber 89 (.iload 4) 2 91 := ⟨by decide +kernel, rfl⟩
theorem kX4_readNumber_91 : Dk mtX4_readNumber 91 (.iadd) 1 92 := ⟨by decide +kernel, rfl⟩
theorem kX4_readNumber_92 : Dk mtX4_readNumber 92 (.iconst 1) 1 93 := ⟨by decide +kernel, rfl⟩
theorem kX4_readNumber_93 : Dk mtX4_readNumber 93 (.isub) 1 94 := ⟨by decide +kernel, rfl⟩
theorem kX4_readNumber_94 : Dk mtX4_readNumber 94 (.iload_n 2) 1 95 := ⟨by decide +kernel, rfl⟩
theorem kX4_readNumber_95 : Dk mtX4_readNumber 95 (.if_icmp .ge 5) 3 98 := ⟨by decide +kernel, rfl⟩
theorem kX4_readNumber_98 : Dk mtX4_readNumber 98 (.iconst (-1)) 1 99 := ⟨by decide +kernel, rfl⟩
theorem kX4_readNumber_99 : Dk mtX4_readNumber 99 (.ireturn) 1 100 := ⟨by decide +kernel, rfl⟩
theorem kX4_readNumber_100 : Dk mtX4_readNumber 100 (.aload_n 0) 1 101 := ⟨by decide +kernel, rfl⟩
theorem kX4_readNumber_101 : Dk mtX4_readNumber 101 (.dup) 1 102 := ⟨by decide +kernel, rfl⟩
theorem kX4_readNumber_102 : Dk mtX4_readNumber 102 (.getfield 33) 3 105 := ⟨by decide +kernel, rfl⟩
theorem kX4_readNumber_105 : Dk mtX4_readNumber 105 (.iconst 1) 1 106 := ⟨by decide +kernel, rfl⟩
theorem kX4_readNumber_106 : Dk mtX4_readNumber 106 (.iadd) 1 107 := ⟨by decide +kernel, rfl⟩
theorem kX4_readNumber_107 : Dk mtX4_readNumber 107 (.putfield 33) 3 110 := ⟨by decide +kernel, rfl⟩
theorem kX4_readNumber_110 : Dk mtX4_readNumber 110 (.iinc 6 1) 3 113 := ⟨by decide +kernel, rfl⟩
theorem kX4_readNumber_113 : Dk mtX4_readNumber 113 (.goto (-82)) 3 116 := ⟨by decide +kernel, rfl⟩
theorem kX4_readNumber_116 : Dk mtX4_readNumber 116 (.iload 5) 2 118 := ⟨by decide +kernel, rfl⟩
theorem kX4_readNumber_118 : Dk mtX4_readNumber 118 (.ireturn) 1 119 := ⟨by decide +kernel, rfl⟩
theorem lmX4_36 : LkM RX4 36 mtX4_signAt := Or.inl (by decide +kernel)
theorem mkX4_signAt : MkV mtX4_signAt 1 := ⟨List.mem_of_getElem? (i := 319) (by decide +kernel), by decide +kernel, by decide +kernel, by decide +kernel, ⟨by decide +kernel, by decide +kernel, by decide +kernel⟩⟩
set_option maxHeartbeats 4000000 in
set_option maxRecDepth 100000 in
theorem cl_readNumber {l : Launch} {w : Wd} {sg : Sg} (hWr : Wr w) {t n : Nat} {tx : Gs} (hT : TR sg t tx n) {d : Nat} {c : Gs} {lo hi : Int32} (h1 : 1 ≤ d) (h3 : d ≤ 3) (hat : sg t 3 = c 9) (h8 : c 8 = nI n) (hTI : TI c) (hw : ¬ c 10 = 0) (hlo : inI lo 0 300) : M l mtX4_readNumber w [vR (some (4, 0, t)), vI (nI d), vI lo, vI hi] sg (fI (if (F_num tx lo hi d c).2 10 = 0 then -1 else (F_num tx lo hi d c).1) (ups sg t 3 ((F_num tx lo hi d c).2 9))) := by
  refine M_of [some (vR (some (4, 0, t))), some (vI (nI d)), some (vI lo), some (vI hi), none, none, none, none] rfl (Nat.le_of_ble_eq_true rfl) (by decide +kernel) ?_
  intro p_ e_ s_ m_ args_ below_ meth_ c_ hC hO
  refine V_iconst hC (1) kX4_readNumber_0 (by decide) ?_
  refine V_istore hC [some _, some _, some _, some _, some _, none, none, none] kX4_readNumber_1 rfl (Nat.le_of_ble_eq_true rfl) ?_
  refine V_iconst hC (0) kX4_readNumber_3 (by decide) ?_
  refine V_istore hC [some _, some _, some _, some _, some _, some _, none, none] kX4_readNumber_4 rfl (Nat.le_of_ble_eq_true rfl) ?_
  refine V_loop d (fun i => [some (vR (some (4, 0, t))), some (vI (nI d)), some (vI lo), some (vI hi), some (vI (nI (10 ^ i))), some (vI (nI i)), none, none]) (fun i => sg) rfl rfl ?_ (fun i hi ihi => ?_)
  · refine V_iload hC kX4_readNumber_6 rfl ?_
    refine V_iload_n hC kX4_readNumber_8 rfl ?_
    refine V_icmp_ge hC 25 kX4_readNumber_9 (by decide) (fun h9 => ?_) (fun h9 => absurd h9 (not_not_intro (Int32.le_refl _)))
    refine V_iconst hC (0) kX4_readNumber_25 (by decide) ?_
    refine V_istore hC [some _, some _, some _, some _, some _, some _, none, none] kX4_readNumber_26 rfl (Nat.le_of_ble_eq_true rfl) ?_
    refine V_iconst hC (0) kX4_readNumber_28 (by decide) ?_
    refine V_istore hC [some _, some _, some _, some _, some _, some _, some _, none] kX4_readNumber_29 rfl (Nat.le_of_ble_eq_true rfl) ?_
    refine V_loopR d (fun i (_ : Unit) => ¬ (F_numN tx lo hi d c i).2 10 = 0) (fun i _ => [some (vR (some (4, 0, t))), some (vI (nI d)), some (vI lo), some (vI hi), some (vI (nI (10 ^ (d - i)))), some (vI (F_numN tx lo hi d c i).1), some (vI (nI i)), none]) (fun i _ => ups sg t 3 ((F_numN tx lo hi d c i).2 9)) () rfl (by show sg = ups sg t 3 (c 9); rw [← hat]; unfold ups; rw [fa_upd_same rfl, upr_self]) hw (fun _ hL => ?_) (fun i _ hid hL ih => ?_)
    · refine V_iload hC kX4_readNumber_31 rfl ?_
      refine V_iload_n hC kX4_readNumber_33 rfl ?_
      refine V_icmp_ge hC 116 kX4_readNumber_34 (by decide) (fun h34 => ?_) (fun h34 => absurd h34 (not_not_intro (Int32.le_refl _)))
      refine V_iload hC kX4_readNumber_116 rfl ?_
      refine V_ireti hC rfl kX4_readNumber_118 ?_
      refine ⟨cI (if_neg hL).symm, by unfold F_num; with_reducible rfl⟩
    · obtain ⟨a, n2, t1, t2, t3, t4⟩ := TI.numN (tx := tx) (lo := lo) (hi := hi) (d := d) hTI i
      have e8 : (F_numN tx lo hi d c i).2 8 = nI n := (numN_un (by decide) i).trans h8
      have en : n2 = n := (nI_eq (by omega) (by have := hT.2.1; omega)).mp (t2.symm.trans e8)
      subst en
      have hT2 : TR (ups sg t 3 ((F_numN tx lo hi d c i).2 9)) t tx n2 := hT.fr (by rw [ups_v, if_neg (by omega)]) (ups_ne _ _ _ (by omega))
      obtain ⟨s1, s2⟩ := sgn_dig hT t1 e8 t3
      obtain ⟨xq, hxq, hxs⟩ := num_small h3 i (by omega) hL
      have hpd := p1000 h3
      have hxq1 : xq ≤ 1000 := Nat.le_trans (Nat.le_trans (Nat.le_add_right _ _) hxs) hpd
      have hdv : dv d i = nI (10 ^ (d - 1 - i)) := if_pos hid
      refine V_iload hC kX4_readNumber_31 rfl ?_
      refine V_iload_n hC kX4_readNumber_33 rfl ?_
      refine V_icmp_ge hC 116 kX4_readNumber_34 (by decide) (fun h34 => absurd h34 (nI_ge hid (by omega))) (fun h34 => ?_)
      refine V_aload_n hC kX4_readNumber_37 rfl ?_
      refine V_aload_n hC kX4_readNumber_38 rfl ?_
      refine V_getI hC 4 3 lfX4_33 kX4_readNumber_39 (Nat.le_of_ble_eq_true rfl) (Nat.le_of_ble_eq_true rfl) rfl ?_
      rw [ups_s]
      refine V_cV_fI hC (cl_signAt hWr hT2 t1 (by omega)) mkX4_signAt lmX4_36 kX4_readNumber_42 (Nat.le_of_ble_eq_true rfl) rfl rfl rfl (Nat.le_of_ble_eq_true rfl) ⟨(Nat.le_of_ble_eq_true rfl), (Nat.le_of_ble_eq_true rfl)⟩ ⟨rfl, rfl⟩ ⟨(Nat.le_of_ble_eq_true rfl), (Nat.le_of_ble_eq_true rfl)⟩ ?_
      refine V_bipush hC (48) kX4_readNumber_45 (by decide) ?_
      refine V_isub hC kX4_readNumber_47 ?_
      refine V_nameI (fun dg e_dg => ?_)
      refine V_istore hC [some _, some _, some _, some _, some _, some _, some _, some _] kX4_readNumber_48 rfl (Nat.le_of_ble_eq_true rfl) ?_
      refine V_iload hC kX4_readNumber_50 rfl ?_
      refine V_if_lt hC 62 kX4_readNumber_52 (by decide) (fun h52 => ?_) (fun h52 => ?_)
      · refine V_iconst hC (-1) kX4_readNumber_62 (by decide) ?_
        refine V_ireti hC rfl kX4_readNumber_63 ?_
        have hno : ¬ P_num tx lo hi (dv d i) (F_numN tx lo hi d c i) := fun z => by
          have q := s1.mpr z.2.1
          rw [← e_dg] at q
          first
          | exact q.1 h52
          | exact h59 q.2
        obtain ⟨f1, f2⟩ := numN_fail hid hno
        refine ⟨cI (if_pos f1).symm, by rw [f2]⟩
      · refine V_iload hC kX4_readNumber_55 rfl ?_
        refine V_bipush hC (9) kX4_readNumber_57 (by decide) ?_
        refine V_icmp_le hC 64 kX4_readNumber_59 (by decide) (fun h59 => ?_) (fun h59 => ?_)
        · have hinn : inn (F_sign (F_numN tx lo hi d c i).2 tx) 48 57 := s1.mp ⟨by rw [← e_dg]; exact h52, by rw [← e_dg]; exact h59⟩
          rw [s2 hinn] at e_dg
          refine V_iload hC kX4_readNumber_64 rfl ?_
          refine V_bipush hC (10) kX4_readNumber_66 (by decide) ?_
          refine V_idiv hC kX4_readNumber_68 (by decide) ?_
          refine V_nameI (fun lf e_lf => ?_)
          refine V_istore hC [some _, some _, some _, some _, some _, some _, some _, some _] kX4_readNumber_69 rfl (Nat.le_of_ble_eq_true rfl) ?_
          replace e_lf : lf = dv d i := e_lf.trans (by rw [hdv, show (10 : Int32) = nI 10 from rfl, pk_div (by have : 10 ^ (d - i) ≤ 10 ^ d := Nat.pow_le_pow_right (by decide) (by omega); omega) (by decide) (by decide), show d - i = (d - 1 - i) + 1 by omega, Nat.pow_succ, Nat.mul_div_cancel _ (by decide)])
          refine V_iload hC kX4_readNumber_71 rfl ?_
          refine V_iload hC kX4_readNumber_73 rfl ?_
          refine V_iload hC kX4_readNumber_75 rfl ?_
          refine V_imul hC kX4_readNumber_77 ?_
          refine V_iadd hC kX4_readNumber_78 ?_
          refine V_nameI (fun nx e_nx => ?_)
          refine V_istore hC [some _, some _, some _, some _, some _, some _, some _, some _] kX4_readNumber_79 rfl (Nat.le_of_ble_eq_true rfl) ?_
          replace e_nx : nx = (F_numN tx lo hi d c i).1 + dv d i * (F_sign (F_numN tx lo hi d c i).2 tx - 48) := by rw [e_nx, e_dg, e_lf, Int32.mul_comm]
          obtain ⟨eg, heg, hegd⟩ := dig_nI hinn
          have hp100 : 10 ^ (d - 1 - i) ≤ 100 := by have := Nat.pow_le_pow_right (n := 10) (by decide) (show d - 1 - i ≤ 2 by omega); omega
          have hmul : 10 ^ (d - 1 - i) * eg ≤ 100 * 9 := Nat.mul_le_mul hp100 heg
          have hll := lo_lt (nx := nx) (lf := lf) (lo := lo) (x := xq + 10 ^ (d - 1 - i) * eg) (p := 10 ^ (d - 1 - i)) (by rw [e_nx, hxq, hegd, hdv, pk_mul, nI_add]) (by rw [e_lf, hdv]) (by omega) (by omega) hlo
          refine V_iload hC kX4_readNumber_81 rfl ?_
          refine V_iload_n hC kX4_readNumber_83 rfl ?_
          refine V_icmp_gt hC 98 kX4_readNumber_84 (by decide) (fun h84 => ?_) (fun h84 => ?_)
          · refine V_iconst hC (-1) kX4_readNumber_98 (by decide) ?_
            refine V_ireti hC rfl kX4_readNumber_99 ?_
            have hno : ¬ P_num tx lo hi (dv d i) (F_numN tx lo hi d c i) := fun z => by
              have q1 := z.2.2.1
              have q2 := z.2.2.2
              rw [← e_nx] at q1 q2
              rw [← e_lf] at q2
              first
              | exact absurd q1 (Int32.not_le.mpr h84)
              | exact h95 (hll.mpr q2)
            obtain ⟨f1, f2⟩ := numN_fail hid hno
            refine ⟨cI (if_pos f1).symm, by rw [f2]⟩
          · refine V_iload hC kX4_readNumber_87 rfl ?_
            refine V_iload hC kX4_readNumber_89 rfl ?_
            refine V_iadd hC kX4_readNumber_91 ?_
            refine V_iconst hC (1) kX4_readNumber_92 (by decide) ?_
            refine V_isub hC kX4_readNumber_93 ?_
            refine V_iload_n hC kX4_readNumber_94 rfl ?_
            refine V_icmp_ge hC 100 kX4_readNumber_95 (by decide) (fun h95 => ?_) (fun h95 => ?_)
            · have hyes : P_num tx lo hi (dv d i) (F_numN tx lo hi d c i) := ⟨hL, hinn, by rw [← e_nx]; exact Int32.not_lt.mp h84, by rw [← e_nx, ← e_lf]; exact hll.mp h95⟩
              refine V_aload_n hC kX4_readNumber_100 rfl ?_
              refine V_dup hC kX4_readNumber_101 rfl ?_
              refine V_getI hC 4 3 lfX4_33 kX4_readNumber_102 (Nat.le_of_ble_eq_true rfl) (Nat.le_of_ble_eq_true rfl) rfl ?_
              refine V_iconst hC (1) kX4_readNumber_105 (by decide) ?_
              refine V_iadd hC kX4_readNumber_106 ?_
              refine V_putI hC 4 3 lfX4_33 kX4_readNumber_107 (Nat.le_of_ble_eq_true rfl) (Nat.le_of_ble_eq_true rfl) rfl rfl ⟨rfl, rfl⟩ ?_
              refine V_iinc hC (_ + 1) [some _, some _, some _, some _, some _, some _, some _, some _] kX4_readNumber_110 rfl rfl rfl (Nat.le_of_ble_eq_true rfl) ?_
              refine V_goto hC 31 kX4_readNumber_113 (by decide) ?_
              refine V_drop 7 [_, _, _, _, _, _, _, none] rfl ?_
              refine V_eq ?_ ?_ (ih () ?_)
              · rw [nI_succ, e_lf, hdv, show d - 1 - i = d - (i + 1) by omega, e_nx]
                rfl
              · rw [ups_s, ups_ups]
                have e9 : (F_numN tx lo hi d c (i + 1)).2 9 = _ := nst_9 tx lo hi (dv d i) (F_numN tx lo hi d c i)
                rw [e9, b01_t hyes]
              · have e10 : (F_numN tx lo hi d c (i + 1)).2 10 = _ := nst_10 tx lo hi (dv d i) (F_numN tx lo hi d c i)
                rw [e10, b01_t hyes]
                decide
            · refine V_iconst hC (-1) kX4_readNumber_98 (by decide) ?_
              refine V_ireti hC rfl kX4_readNumber_99 ?_
              have hno : ¬ P_num tx lo hi (dv d i) (F_numN tx lo hi d c i) := fun z => by
                have q1 := z.2.2.1
                have q2 := z.2.2.2
                rw [← e_nx] at q1 q2
                rw [← e_lf] at q2
                first
                | exact absurd q1 (Int32.not_le.mpr h84)
                | exact h95 (hll.mpr q2)
              obtain ⟨f1, f2⟩ := numN_fail hid hno
              refine ⟨cI (if_pos f1).symm, by rw [f2]⟩
        · refine V_iconst hC (-1) kX4_readNumber_62 (by decide) ?_
          refine V_ireti hC rfl kX4_readNumber_63 ?_
          have hno : ¬ P_num tx lo hi (dv d i) (F_numN tx lo hi d c i) := fun z => by
            have q := s1.mpr z.2.1
            rw [← e_dg] at q
            first
            | exact q.1 h52
            | exact h59 q.2
          obtain ⟨f1, f2⟩ := numN_fail hid hno
          refine ⟨cI (if_pos f1).symm, by rw [f2]⟩
  · refine V_iload hC kX4_readNumber_6 rfl ?_
    refine V_iload_n hC kX4_readNumber_8 rfl ?_
    refine V_icmp_ge hC 25 kX4_readNumber_9 (by decide) (fun h9 => absurd h9 (nI_ge hi (by omega))) (fun h9 => ?_)
    refine V_iload hC kX4_readNumber_12 rfl ?_
    refine V_bipush hC (10) kX4_readNumber_14 (by decide) ?_
    refine V_imul hC kX4_readNumber_16 ?_
    refine V_istore hC [some _, some _, some _, some _, some _, some _, none, none] kX4_readNumber_17 rfl (Nat.le_of_ble_eq_true rfl) ?_
    refine V_iinc hC (_ + 1) [some _, some _, some _, some _, some _, some _, none, none] kX4_readNumber_19 rfl rfl rfl (Nat.le_of_ble_eq_true rfl) ?_
    refine V_goto hC 6 kX4_readNumber_22 (by decide) ?_
    refine V_eq ?_ rfl ihi
    rw [nI_succ, show (10 : Int32) = nI 10 from rfl, pk_mul, Nat.pow_succ]
