-- HOW ct_in fI
-- HOW ct_fails fI
-- HOW ct_of fI
-- HOW ct_ofBoat fI
-- HOW ct_layBoat fV
-- HOW ct_isLight fI
-- HOW ct_isBoat fI
-- HOW ct_isPlace fI
-- HOW ct_bright fI
-- HOW ct_worth fI
-- HOW ct_serves fI
-- HOW ct_best fI
-- HOW ct_sails fV
-- HOW ct_drops fV
-- HOW ct_wished fI
-- HOW ct_hands fV
-- HOW ct_wishes fV
-- HOW ct_finds fV
-- HOW ct_goesOn fV
-- HOW ct_goesTick fV
-- HOW ct_goesBy fI
-- HOW ct_putAside fV
-- HOW ct_takeBack fV
-- HOW ct_isLamp fI
-- HOW ct_addsLight fI
-- HOW ct_actsLight fI
-- HOW ct_addsBoat fI
-- HOW ct_actsBoat fI
-- HOW ct_actsSteer fI
-- HOW ct_canTalk fI
-- HOW ct_actsTalk fI
-- HOW ct_actsLean fI
-- HOW ct_actsDim fI
-- HOW ct_mostOf fI
-- HOW ct_isSetting fI
-- HOW ct_actsSet fI
-- HOW ct_actsTicks fI
-- HOW ct_boatsThat fI
-- HOW ct_servedBy fI
-- HOW ct_begins fV
-- HOW ct_tellsAbout fI
-- HOW ct_about fM
-- HOW ct_lightOf fM
-- HOW ct_boatOf fM
-- HOW ct_brightness fM
-- HOW ct_bestAt fM
-- HOW ct_setting fM
-- HOW ct_saves fV
-- HOW ct_light fM
-- HOW ct_boat fM
-- HOW ct_steer fM
-- HOW ct_talk fM
-- HOW ct_lean fM
-- HOW ct_dim fM
-- HOW ct_set fM
-- HOW ct_ticks fM
-- HOW ct_undo fM
-- HOW ct_save fM
-- HOW ct_restore fM
-- HOW ct_bringsBy fI
-- HOW ct_ifMargin fM
-- HOW ct_held fI
-- HOW ct_room fI
-- HOW ct_dark fI
-- HOW ct_turns fV
-- HOW ct_simulate fM
-- HOW ct_border fM
-- HOW ct_handedIn fM
-- HOW ct_bestMargin fM
-- HOW ct_thrown fI
-- HOW ct_sign fI
-- HOW ct_number fI
-- HOW ct_carriesLight fI
-- HOW ct_carries fI
-- HOW ct_isCommand fI
-- HOW ct_append fM
-- HOW ct_clearText fM
-- HOW ct_readsAll fV
-- HOW ct_errorPosition fI
-- HOW ct_load rI
-- HOW ct_pair fI
-- HOW ct_laysFigures fV
-- HOW ct_succeeds fI
-- HOW ct_runScript rI
-- HOW cl_isPlace fI
-- HOW cl_isSpeed fI
-- HOW cl_isStrength fI
-- HOW cl_isTickCount fI
-- HOW cl_isSetting fI
-- HOW cl_isSlot fI
-- HOW cl_isSettingValue fI
-- HOW cl_shown fI
-- HOW cl_withoutGroups fL
-- HOW cl_lbegin fV
-- HOW cl_lcopy fV
-- HOW cl_bcopy fV
-- HOW cl_lnum fI
-- HOW cl_bnum fI
-- HOW cl_bright fI
-- HOW cl_worth fI
-- HOW cl_bitCount fI
-- HOW cl_servedCount fI
-- HOW cl_takesHandedOn fI
-- HOW cl_takesOthers fI
-- HOW cl_bbegin fV
-- HOW cl_move fV
-- HOW cl_wishFor fV
-- HOW cl_lightR fR
-- HOW cl_lightN fR
-- HOW cl_boatR fR
-- HOW cl_boatN fR
-- HOW cl_setR fI
-- HOW cl_lightAt fR
-- HOW cl_lightAtNo fR
-- HOW cl_boatAt fR
-- HOW cl_boatAtNo fR
-- HOW cl_settingOf fI
-- HOW cl_servedBoats fI
-- HOW cl_talkingBoats fI
-- HOW cl_numberOf fI
-- HOW cl_brightest fI
-- HOW cl_isDark fI
-- HOW cl_freePlaces fI
-- HOW cl_isServing fI
-- HOW cl_isServingAtLeast fI
-- HOW cl_isBoatAt fI
-- HOW cl_lightFault fI
-- HOW cl_boatFault fI
-- HOW cl_steerFault fI
-- HOW cl_dimFault fI
-- HOW cl_leanFault fI
-- HOW cl_talkFault fI
-- HOW cl_putSpeed rI
-- HOW cl_putTalk rI
-- HOW cl_putLeaning rI
-- HOW cl_putStrength rI
-- HOW cl_putSetting rI
-- HOW cl_addLight rI
-- HOW cl_addBoat rI
-- HOW cl_tryLight rI
-- HOW cl_tryBoat rI
-- HOW cl_trySteer rI
-- HOW cl_tryTalk rI
-- HOW cl_tryLean rI
-- HOW cl_tryDim rI
-- HOW cl_trySet rI
-- HOW cl_serve rV
-- HOW cl_lose rV
-- HOW cl_bestWish fI
-- HOW cl_seekKeeper rV
-- HOW cl_ask rV
-- HOW cl_setW fI
-- HOW cl_sail rV
-- HOW cl_pass rV
-- HOW cl_reset rV
-- HOW cl_copyFrom rV
-- HOW cl_stateAt fR
-- HOW cl_slotAt fR
-- HOW cl_hasStates fI
-- HOW cl_mreset rV
-- HOW cl_remember rV
-- HOW cl_takeBack rI
-- HOW cl_isKept fI
-- HOW cl_keep rV
-- HOW cl_bring rV
-- HOW cl_isFull fI
-- HOW cl_add fI
-- HOW cl_empty fI
-- HOW cl_hasMore fI
-- HOW cl_signAt fI
-- HOW cl_number fI
-- HOW cl_formOf fR
-- HOW cl_readNumber fI
-- HOW cl_formY fR
-- HOW cl_formN fR
-- HOW cl_readHead fI
-- HOW cl_readCommand rI
-- HOW cl_errorPlace rI
/-! the class: reading commands -/
theorem cl_formY {l : Launch} {w : Wd} {sg : Sg} (hWr : Wr w) {a : Int32} (h : cCmd a) : M l mtX4_formOf w [vI a] sg (fR (some (20, slen (kx a), 1000000 + kx a)) sg) := by
  have := cl_formOf (l := l) (w := w) (sg := sg) hWr a
  rw [if_pos h] at this
  exact this
theorem cl_formN {l : Launch} {w : Wd} {sg : Sg} (hWr : Wr w) {a : Int32} (h : ¬ cCmd a) : M l mtX4_formOf w [vI a] sg (fR none sg) := by
  have := cl_formOf (l := l) (w := w) (sg := sg) hWr a
  rw [if_neg h] at this
  exact this
theorem sgn_0 {sg : Sg} {t n : Nat} {tx : Gs} (hT : TR sg t tx n) {c : Gs} {a : Nat} (h9 : c 9 = nI a) (h8 : c 8 = nI n) (ha : a < n) : cSg tx n a = F_sign c tx := by
  have := hT.2.1
  unfold cSg F_sign
  rw [if_pos ha, h9, h8, if_pos ((nI_ltI (by omega) (by omega)).mpr ha), show tn (nI a) = a from nI_clamp (by omega)]
theorem head_s {sg : Sg} {t n : Nat} {tx : Gs} (hT : TR sg t tx n) {c : Gs} (h8 : c 8 = nI n) (d : Int32) : (F_sign (F_ra c d) tx = 67 ↔ cSg tx n 0 = 67) ∧ F_ra c d 9 = 0 := by
  have e9 : F_ra c d 9 = 0 := by unfold F_ra; rw [pk_un (by decide), pk_un (by decide), pk_us]
  have e8 : F_ra c d 8 = nI n := by unfold F_ra; rw [pk_un (by decide), pk_un (by decide), pk_un (by decide), h8]
  refine ⟨?_, e9⟩
  have := hT.2.1
  by_cases q : 0 < n
  · rw [sgn_0 hT (c := F_ra c d) (a := 0) e9 e8 q]
  · unfold F_sign cSg
    rw [e9, e8, if_neg q, if_neg (fun z : (0 : Int32) < nI n => q ((nI_ltI (a := 0) (by decide) (by omega)).mp z))]
    exact ⟨fun z => absurd z (by decide), fun z => absurd z (by decide)⟩
theorem r0_9 {tx c : Gs} {d : Int32} (e : F_ra c d 9 = 0) : F_r0 tx c d 9 = b01 (F_sign (F_ra c d) tx = 67) := by
  unfold F_r0
  rw [pk_us, e, Int32.zero_add]
theorem r0_10 (tx c : Gs) (d : Int32) : F_r0 tx c d 10 = b01 (F_sign (F_ra c d) tx = 67) := by
  unfold F_r0
  rw [pk_un (by decide), pk_us]
def cNext (tx c : Gs) : Gs := if cCmd (F_sign c tx) then F_rd tx (F_sign c tx) (F_rc tx c) else F_rc tx c
def P_cmd (sg : Sg) (t : Nat) (tx c : Gs) (x : Int32) (sg2 : Sg) : Prop :=
  (∀ k, k ≠ t → k ≠ t + 2 → sg2 k = sg k) ∧ sg2 t 2 = sg t 2 ∧ sg2 t 3 = cNext tx c 9 ∧ x = b01 (¬ cNext tx c 10 = 0) ∧ (¬ cNext tx c 10 = 0 → sg2 t 4 = F_sign c tx ∧ cCmd (F_sign c tx) ∧ ∀ i, i < nfm (F_sign c tx) → sg2 (t + 2) i = F_vals tx (F_sign c tx) (F_rc tx c) i)
theorem ofN_le {a b : Nat} (ha : a < 1000) (hb : b < 1000) : Int32.ofNat a ≤ nI b * 3 + 2 ↔ a ≤ 3 * b + 2 := by
  rw [show (3 : Int32) = nI 3 from rfl, show (2 : Int32) = nI 2 from rfl, pk_mul, nI_add, show Int32.ofNat a = nI a from rfl, Int32.le_iff_toInt_le, nI_toInt (by omega), nI_toInt (by omega)]
  omega
def mtX4_readHead : Mt := (yX4_readHead, cX4_readHead, 1, (some .boolean), 1, 21, 0, 0)
theorem kX4_readHead_0 : Dk mtX4_readHead 0 (.aload_n 0) 1 1 := ⟨by decide +kernel, rfl⟩
theorem kX4_readHead_1 : Dk mtX4_readHead 1 (.iconst 0) 1 2 := ⟨by decide +kernel, rfl⟩
theorem kX4_readHead_2 : Dk mtX4_readHead 2 (.putfield 33) 3 5 := ⟨by decide +kernel, rfl⟩
theorem kX4_readHead_5 : Dk mtX4_readHead 5 (.aload_n 0) 1 6 := ⟨by decide +kernel, rfl⟩
theorem kX4_readHead_6 : Dk mtX4_readHead 6 (.iconst 0) 1 7 := ⟨by decide +kernel, rfl⟩
theorem kX4_readHead_7 : Dk mtX4_readHead 7 (.invokevirtual 36) 3 10 := ⟨by decide +kernel, rfl⟩
theorem kX4_readHead_10 : Dk mtX4_readHead 10 (.bipush 67) 2 12 := ⟨by decide +kernel, rfl⟩
theorem kX4_readHead_12 : Dk mtX4_readHead 12 (.if_icmp .eq 5) 3 15 := ⟨by decide +kernel, rfl⟩
theorem kX4_readHead_15 : Dk mtX4_readHead 15 (.iconst 0) 1 16 := ⟨by decide +kernel, rfl⟩
theorem kX4_readHead_16 : Dk mtX4_readHead 16 (.ireturn) 1 17 := ⟨by decide +kernel, rfl⟩
theorem kX4_readHead_17 : Dk mtX4_readHead 17 (.aload_n 0) 1 18 := ⟨by decide +kernel, rfl⟩
theorem kX4_readHead_18 : Dk mtX4_readHead 18 (.iconst 1) 1 19 := ⟨by decide +kernel, rfl⟩
theorem kX4_readHead_19 : Dk mtX4_readHead 19 (.putfield 33) 3 22 := ⟨by decide +kernel, rfl⟩
theorem kX4_readHead_22 : Dk mtX4_readHead 22 (.iconst 1) 1 23 := ⟨by decide +kernel, rfl⟩
theorem kX4_readHead_23 : Dk mtX4_readHead 23 (.ireturn) 1 24 := ⟨by decide +kernel, rfl⟩
set_option maxHeartbeats 4000000 in
set_option maxRecDepth 100000 in
theorem cl_readHead {l : Launch} {w : Wd} {sg : Sg} (hWr : Wr w) {t n : Nat} {tx : Gs} (hT : TR sg t tx n) {c : Gs} (h8 : c 8 = nI n) (d : Int32) : M l mtX4_readHead w [vR (some (4, 0, t))] sg (fI (F_r0 tx c d 10) (ups sg t 3 (F_r0 tx c d 9))) := by
  refine M_of [some (vR (some (4, 0, t)))] rfl (Nat.le_of_ble_eq_true rfl) (by decide +kernel) ?_
  intro p_ e_ s_ m_ args_ below_ meth_ c_ hC hO
  obtain ⟨hh, h90⟩ := head_s hT h8 d
  refine V_aload_n hC kX4_readHead_0 rfl ?_
  refine V_iconst hC (0) kX4_readHead_1 (by decide) ?_
  refine V_putI hC 4 3 lfX4_33 kX4_readHead_2 (Nat.le_of_ble_eq_true rfl) (Nat.le_of_ble_eq_true rfl) rfl rfl ⟨rfl, rfl⟩ ?_
  refine V_aload_n hC kX4_readHead_5 rfl ?_
  refine V_iconst hC (0) kX4_readHead_6 (by decide) ?_
  refine V_cV_fI hC (cl_signAt hWr (hT.fr (by rw [ups_v, if_neg (by omega)]) (ups_ne _ _ _ (by omega))) (i := 0) rfl (by decide)) mkX4_signAt lmX4_36 kX4_readHead_7 (Nat.le_of_ble_eq_true rfl) rfl rfl rfl (Nat.le_of_ble_eq_true rfl) ⟨(Nat.le_of_ble_eq_true rfl), (Nat.le_of_ble_eq_true rfl)⟩ ⟨rfl, rfl⟩ ⟨(Nat.le_of_ble_eq_true rfl), (Nat.le_of_ble_eq_true rfl)⟩ ?_
  refine V_bipush hC (67) kX4_readHead_10 (by decide) ?_
  refine V_icmp_eq hC 17 kX4_readHead_12 (by decide) (fun h12 => ?_) (fun h12 => ?_)
  · refine V_aload_n hC kX4_readHead_17 rfl ?_
    refine V_iconst hC (1) kX4_readHead_18 (by decide) ?_
    refine V_putI hC 4 3 lfX4_33 kX4_readHead_19 (Nat.le_of_ble_eq_true rfl) (Nat.le_of_ble_eq_true rfl) rfl rfl ⟨rfl, rfl⟩ ?_
    refine V_iconst hC (1) kX4_readHead_22 (by decide) ?_
    refine V_iretz hC rfl kX4_readHead_23 ?_ ?_
    · first | exact Or.inl rfl | exact Or.inr rfl
    · first
      | (have hb : b01 (F_sign (F_ra c d) tx = 67) = 0 := b01_f (fun z => absurd (hh.mp z) h12)
         rw [r0_9 h90, r0_10, hb]
         exact ⟨by with_reducible rfl, by with_reducible rfl⟩)
      | (have hb : b01 (F_sign (F_ra c d) tx = 67) = 1 := b01_t (hh.mpr h12)
         rw [r0_9 h90, r0_10, hb, ups_ups]
         exact ⟨by with_reducible rfl, by with_reducible rfl⟩)
  · refine V_iconst hC (0) kX4_readHead_15 (by decide) ?_
    refine V_iretz hC rfl kX4_readHead_16 ?_ ?_
    · first | exact Or.inl rfl | exact Or.inr rfl
    · first
      | (have hb : b01 (F_sign (F_ra c d) tx = 67) = 0 := b01_f (fun z => absurd (hh.mp z) h12)
         rw [r0_9 h90, r0_10, hb]
         exact ⟨by with_reducible rfl, by with_reducible rfl⟩)
      | (have hb : b01 (F_sign (F_ra c d) tx = 67) = 1 := b01_t (hh.mpr h12)
         rw [r0_9 h90, r0_10, hb, ups_ups]
         exact ⟨by with_reducible rfl, by with_reducible rfl⟩)
def mtX4_readCommand : Mt := (yX4_readCommand, cX4_readCommand, 4, (some .boolean), 2, 48, 0, 0)
theorem kX4_readCommand_0 : Dk mtX4_readCommand 0 (.aload_n 0) 1 1 := ⟨by decide +kernel, rfl⟩
theorem kX4_readCommand_1 : Dk mtX4_readCommand 1 (.aload_n 0) 1 2 := ⟨by decide +kernel, rfl⟩
theorem kX4_readCommand_2 : Dk mtX4_readCommand 2 (.aload_n 0) 1 3 := ⟨by decide +kernel, rfl⟩
theorem kX4_readCommand_3 : Dk mtX4_readCommand 3 (.getfield 33) 3 6 := ⟨by decide +kernel, rfl⟩
theorem kX4_readCommand_6 : Dk mtX4_readCommand 6 (.invokevirtual 36) 3 9 := ⟨by decide +kernel, rfl⟩
theorem kX4_readCommand_9 : Dk mtX4_readCommand 9 (.putfield 40) 3 12 := ⟨by decide +kernel, rfl⟩
theorem kX4_readCommand_12 : Dk mtX4_readCommand 12 (.aload_n 0) 1 13 := ⟨by decide +kernel, rfl⟩
theorem kX4_readCommand_13 : Dk mtX4_readCommand 13 (.getfield 40) 3 16 := ⟨by decide +kernel, rfl⟩
theorem kX4_readCommand_16 : Dk mtX4_readCommand 16 (.invokestatic 43) 3 19 := ⟨by decide +kernel, rfl⟩
theorem kX4_readCommand_19 : Dk mtX4_readCommand 19 (.astore_n 1) 1 20 := ⟨by decide +kernel, rfl⟩
theorem kX4_readCommand_20 : Dk mtX4_readCommand 20 (.aload_n 1) 1 21 := ⟨by decide +kernel, rfl⟩
theorem kX4_readCommand_21 : Dk mtX4_readCommand 21 (.ifnonnull 5) 3 24 := ⟨by decide +kernel, rfl⟩
theorem kX4_readCommand_24 : Dk mtX4_readCommand 24 (.iconst 0) 1 25 := ⟨by decide +kernel, rfl⟩
theorem kX4_readCommand_25 : Dk mtX4_readCommand 25 (.ireturn) 1 26 := ⟨by decide +kernel, rfl⟩
theorem kX4_readCommand_26 : Dk mtX4_readCommand 26 (.aload_n 0) 1 27 := ⟨by decide +kernel, rfl⟩
theorem kX4_readCommand_27 : Dk mtX4_readCommand 27 (.dup) 1 28 := ⟨by decide +kernel, rfl⟩
theorem kX4_readCommand_28 : Dk mtX4_readCommand 28 (.getfield 33) 3 31 := ⟨by decide +kernel, rfl⟩
theorem kX4_readCommand_31 : Dk mtX4_readCommand 31 (.iconst 1) 1 32 := ⟨by decide +kernel, rfl⟩
theorem kX4_readCommand_32 : Dk mtX4_readCommand 32 (.iadd) 1 33 := ⟨by decide +kernel, rfl⟩
theorem kX4_readCommand_33 : Dk mtX4_readCommand 33 (.putfield 33) 3 36 := ⟨by decide +kernel, rfl⟩
theorem kX4_readCommand_36 : Dk mtX4_readCommand 36 (.iconst 0) 1 37 := ⟨by decide +kernel, rfl⟩
theorem kX4_readCommand_37 : Dk mtX4_readCommand 37 (.istore_n 2) 1 38 := ⟨by decide +kernel, rfl⟩
theorem kX4_readCommand_38 : Dk mtX4_readCommand 38 (.iload_n 2) 1 39 := ⟨by decide +kernel, rfl⟩
theorem kX4_readCommand_39 : Dk mtX4_readCommand 39 (.aload_n 0) 1 40 := ⟨by decide +kernel, rfl⟩
theorem kX4_readCommand_40 : Dk mtX4_readCommand 40 (.getfield 15) 3 43 := ⟨by decide +kernel, rfl⟩
theorem kX4_readCommand_43 : Dk mtX4_readCommand 43 (.arraylength) 1 44 := ⟨by decide +kernel, rfl⟩
theorem kX4_readCommand_44 : Dk mtX4_readCommand 44 (.if_icmp .ge 57) 3 47 := ⟨by decide +kernel, rfl⟩
theorem kX4_readCommand_47 : Dk mtX4_readCommand 47 (.iload_n 2) 1 48 := ⟨by decide +kernel, rfl⟩
theorem kX4_readCommand_48 : Dk mtX4_readCommand 48 (.iconst 3) 1 49 := ⟨by decide +kernel, rfl⟩
theorem kX4_readCommand_49 : Dk mtX4_readCommand 49 (.imul) 1 50 := ⟨by decide +kernel, rfl⟩
theorem kX4_readCommand_50 : Dk mtX4_readCommand 50 (.iconst 2) 1 51 := ⟨by decide +kernel, rfl⟩
theorem kX4_readCommand_51 : Dk mtX4_readCommand 51 (.iadd) 1 52 := ⟨by decide +kernel, rfl⟩
theorem kX4_readCommand_52 : Dk mtX4_readCommand 52 (.aload_n 1) 1 53 := ⟨by decide +kernel, rfl⟩
theorem kX4_readCommand_53 : Dk mtX4_readCommand 53 (.arraylength) 1 54 := ⟨by decide +kernel, rfl⟩
theorem kX4_readCommand_54 : Dk mtX4_readCommand 54 (.if_icmp .ge 47) 3 57 := ⟨by decide +kernel, rfl⟩
theorem kX4_readCommand_57 : Dk mtX4_readCommand 57 (.aload_n 0) 1 58 := ⟨by decide +kernel, rfl⟩
theorem kX4_readCommand_58 : Dk mtX4_readCommand 58 (.aload_n 1) 1 59 := ⟨by decide +kernel, rfl⟩
theorem kX4_readCommand_59 : Dk mtX4_readCommand 59 (.iload_n 2) 1 60 := ⟨by decide +kernel, rfl⟩
theorem kX4_readCommand_60 : Dk mtX4_readCommand 60 (.iconst 3) 1 61 := ⟨by decide +kernel, rfl⟩
theorem kX4_readCommand_61 : Dk mtX4_readCommand 61 (.imul) 1 62 := ⟨by decide +kernel, rfl⟩
theorem kX4_readCommand_62 : Dk mtX4_readCommand 62 (.iaload) 1 63 := ⟨by decide +kernel, rfl⟩
theorem kX4_readCommand_63 : Dk mtX4_readCommand 63 (.aload_n 1) 1 64 := ⟨by decide +kernel, rfl⟩
theorem kX4_readCommand_64 : Dk mtX4_readCommand 64 (.iload_n 2) 1 65 := ⟨by decide +kernel, rfl⟩
theorem kX4_readCommand_65 : Dk mtX4_readCommand 65 (.iconst 3) 1 66 := ⟨by decide +kernel, rfl⟩
theorem kX4_readCommand_66 : Dk mtX4_readCommand 66 (.imul) 1 67 := ⟨by decide +kernel, rfl⟩
theorem kX4_readCommand_67 : Dk mtX4_readCommand 67 (.iconst 1) 1 68 := ⟨by decide +kernel, rfl⟩
theorem kX4_readCommand_68 : Dk mtX4_readCommand 68 (.iadd) 1 69 := ⟨by decide +kernel, rfl⟩
theorem kX4_readCommand_69 : Dk mtX4_readCommand 69 (.iaload) 1 70 := ⟨by decide +kernel, rfl⟩
theorem kX4_readCommand_70 : Dk mtX4_readCommand 70 (.aload_n 1) 1 71 := ⟨by decide +kernel, rfl⟩
theorem kX4_readCommand_71 : Dk mtX4_readCommand 71 (.iload_n 2) 1 72 := ⟨by decide +kernel, rfl⟩
theorem kX4_readCommand_72 : Dk mtX4_readCommand 72 (.iconst 3) 1 73 := ⟨by decide +kernel, rfl⟩
theorem kX4_readCommand_73 : Dk mtX4_readCommand 73 (.imul) 1 74 := ⟨by decide +kernel, rfl⟩
theorem kX4_readCommand_74 : Dk mtX4_readCommand 74 (.iconst 2) 1 75 := ⟨by decide +kernel, rfl⟩
theorem kX4_readCommand_75 : Dk mtX4_readCommand 75 (.iadd) 1 76 := ⟨by decide +kernel, rfl⟩
theorem kX4_readCommand_76 : Dk mtX4_readCommand 76 (.iaload) 1 77 := ⟨by decide +kernel, rfl⟩
theorem kX4_readCommand_77 : Dk mtX4_readCommand 77 (.invokevirtual 47) 3 80 := ⟨by decide +kernel, rfl⟩
theorem kX4_readCommand_80 : Dk mtX4_readCommand 80 (.istore_n 3) 1 81 := ⟨by decide +kernel, rfl⟩
theorem kX4_readCommand_81 : Dk mtX4_readCommand 81 (.iload_n 3) 1 82 := ⟨by decide +kernel, rfl⟩
theorem kX4_readCommand_82 : Dk mtX4_readCommand 82 (.iconst (-1)) 1 83 := ⟨by decide +kernel, rfl⟩
theorem kX4_readCommand_83 : Dk mtX4_readCommand 83 (.if_icmp .ne 5) 3 86 := ⟨by decide +kernel, rfl⟩
theorem kX4_readCommand_86 : Dk mtX4_readCommand 86 (.iconst 0) 1 87 := ⟨by decide +kernel, rfl⟩
theorem kX4_readCommand_87 : Dk mtX4_readCommand 87 (.ireturn) 1 88 := ⟨by decide +kernel, rfl⟩
theorem kX4_readCommand_88 : Dk mtX4_readCommand 88 (.aload_n 0) 1 89 := ⟨by decide +kernel, rfl⟩
theorem kX4_readCommand_89 : Dk mtX4_readCommand 89 (.getfield 15) 3 92 := ⟨by decide +kernel, rfl⟩
theorem kX4_readCommand_92 : Dk mtX4_readCommand 92 (.iload_n 2) 1 93 := ⟨by decide +kernel, rfl⟩
theorem kX4_readCommand_93 : Dk mtX4_readCommand 93 (.iload_n 3) 1 94 := ⟨by decide +kernel, rfl⟩
theorem kX4_readCommand_94 : Dk mtX4_readCommand 94 (.iastore) 1 95 := ⟨by decide +kernel, rfl⟩
theorem kX4_readCommand_95 : Dk mtX4_readCommand 95 (.iinc 2 1) 3 98 := ⟨by decide +kernel, rfl⟩
theorem kX4_readCommand_98 : Dk mtX4_readCommand 98 (.goto (-60)) 3 101 := ⟨by decide +kernel, rfl⟩
theorem kX4_readCommand_101 : Dk mtX4_readCommand 101 (.iconst 1) 1 102 := ⟨by decide +kernel, rfl⟩
theorem kX4_readCommand_102 : Dk mtX4_readCommand 102 (.ireturn) 1 103 := ⟨by decide +kernel, rfl⟩
theorem lfX4_40 : LkF RX4 40 4 4 := Or.inl (by decide +kernel)
theorem lmX4_43 : LkM RX4 43 mtX4_formOf := Or.inl (by decide +kernel)
theorem mkX4_formOf : MkS mtX4_formOf 1 := ⟨List.mem_of_getElem? (i := 330) (by decide +kernel), by decide +kernel, by decide +kernel, ⟨by decide +kernel, by decide +kernel, by decide +kernel⟩⟩
theorem lmX4_47 : LkM RX4 47 mtX4_readNumber := Or.inl (by decide +kernel)
theorem mkX4_readNumber : MkV mtX4_readNumber 3 := ⟨List.mem_of_getElem? (i := 346) (by decide +kernel), by decide +kernel, by decide +kernel, by decide +kernel, ⟨by decide +kernel, by decide +kernel, by decide +kernel⟩⟩
set_option maxHeartbeats 4000000 in
set_option maxRecDepth 100000 in
theorem cl_readCommand {l : Launch} {w : Wd} {sg : Sg} (hWr : Wr w) {t n : Nat} {tx : Gs} (hT : TR sg t tx n) {c : Gs} (hat : sg t 3 = c 9) (h8 : c 8 = nI n) (hTI : TI c) (hw : ¬ c 10 = 0) (hlt : c 9 < c 8) : M l mtX4_readCommand w [vR (some (4, 0, t))] sg (rI (P_cmd sg t tx c)) := by
  refine M_of [some (vR (some (4, 0, t))), none, none, none] rfl (Nat.le_of_ble_eq_true rfl) (by decide +kernel) ?_
  intro p_ e_ s_ m_ args_ below_ meth_ c_ hC hO
  obtain ⟨a0, n2, t1, t2, t3, t4⟩ := id hTI
  have hn := hT.2.1
  have en : n2 = n := (nI_eq (by omega) (by omega)).mp (t2.symm.trans h8)
  subst en
  have ha0 : a0 < n2 := (nI_ltI (by omega) (by omega)).mp (by rw [← t1, ← t2]; exact hlt)
  have hsg := sgn_0 hT t1 h8 ha0
  refine V_aload_n hC kX4_readCommand_0 rfl ?_
  refine V_aload_n hC kX4_readCommand_1 rfl ?_
  refine V_aload_n hC kX4_readCommand_2 rfl ?_
  refine V_getI hC 4 3 lfX4_33 kX4_readCommand_3 (Nat.le_of_ble_eq_true rfl) (Nat.le_of_ble_eq_true rfl) rfl ?_
  refine V_cV_fI hC (cl_signAt hWr hT (hat.trans t1) (by omega)) mkX4_signAt lmX4_36 kX4_readCommand_6 (Nat.le_of_ble_eq_true rfl) rfl rfl rfl (Nat.le_of_ble_eq_true rfl) ⟨(Nat.le_of_ble_eq_true rfl), (Nat.le_of_ble_eq_true rfl)⟩ ⟨rfl, rfl⟩ ⟨(Nat.le_of_ble_eq_true rfl), (Nat.le_of_ble_eq_true rfl)⟩ ?_
  rw [hsg]
  refine V_putI hC 4 4 lfX4_40 kX4_readCommand_9 (Nat.le_of_ble_eq_true rfl) (Nat.le_of_ble_eq_true rfl) rfl rfl ⟨rfl, rfl⟩ ?_
  refine V_aload_n hC kX4_readCommand_12 rfl ?_
  refine V_getI hC 4 4 lfX4_40 kX4_readCommand_13 (Nat.le_of_ble_eq_true rfl) (Nat.le_of_ble_eq_true rfl) rfl ?_
  rw [ups_s]
  rcases Classical.em (cCmd (F_sign c tx)) with hc | hc
  · refine V_cS_fR hC (cl_formY hWr hc) mkX4_formOf lmX4_43 kX4_readCommand_16 rfl rfl (Nat.le_of_ble_eq_true rfl) ⟨(Nat.le_of_ble_eq_true rfl), (Nat.le_of_ble_eq_true rfl)⟩ ⟨rfl, rfl⟩ ⟨(Nat.le_of_ble_eq_true rfl), (Nat.le_of_ble_eq_true rfl)⟩ ?_
    refine V_astore_n hC [some _, some _, none, none] kX4_readCommand_19 rfl (Nat.le_of_ble_eq_true rfl) ?_
    refine V_aload_n hC kX4_readCommand_20 rfl ?_
    refine V_ifnonnull hC 26 kX4_readCommand_21 (by decide) (fun _ _ => ?_) (fun hq => by cases hq)
    refine V_aload_n hC kX4_readCommand_26 rfl ?_
    refine V_dup hC kX4_readCommand_27 rfl ?_
    refine V_getI hC 4 3 lfX4_33 kX4_readCommand_28 (Nat.le_of_ble_eq_true rfl) (Nat.le_of_ble_eq_true rfl) rfl ?_
    refine V_iconst hC (1) kX4_readCommand_31 (by decide) ?_
    refine V_iadd hC kX4_readCommand_32 ?_
    refine V_putI hC 4 3 lfX4_33 kX4_readCommand_33 (Nat.le_of_ble_eq_true rfl) (Nat.le_of_ble_eq_true rfl) rfl rfl ⟨rfl, rfl⟩ ?_
    refine V_nameS (fun s1 e_s1 => ?_)
    obtain ⟨f1, f2, f3, f4, f5⟩ := form_at hc
    have hTI1 : TI (F_rc tx c) := hTI.rc hlt
    have hB0 : ¬ (F_nms tx (F_sign c tx) (F_rc tx c) 0).2 10 = 0 ∧ (∀ k, k ≠ t → k ≠ t + 2 → s1 k = sg k) ∧ s1 t 2 = sg t 2 ∧ s1 t 3 = (F_nms tx (F_sign c tx) (F_rc tx c) 0).2 9 ∧ s1 t 4 = (F_sign c tx) ∧ ∀ j, j < 0 → s1 (t + 2) j = F_vals tx (F_sign c tx) (F_rc tx c) j := by
      rw [e_s1]
      refine ⟨by show ¬ F_rc tx c 10 = 0; rw [rc_10, b01_t hc]; decide, fun k h1 h2 => by rw [ups_ne _ _ _ h1, ups_ne _ _ _ h1], ?_, ?_, ?_, fun j hj => by omega⟩
      · rw [ups_v, if_neg (by omega), ups_v, if_neg (by omega)]
      · rw [ups_s, ups_v, if_neg (by omega), hat]
        show _ = F_rc tx c 9
        rw [rc_9, b01_t hc]
      · rw [ups_v, if_neg (by omega), ups_s]
    refine V_iconst hC (0) kX4_readCommand_36 (by decide) ?_
    refine V_istore_n hC [some _, some _, some _, none] kX4_readCommand_37 rfl (Nat.le_of_ble_eq_true rfl) ?_
    refine V_loopR (nfm (F_sign c tx)) (fun i b => ¬ (F_nms tx (F_sign c tx) (F_rc tx c) i).2 10 = 0 ∧ (∀ k, k ≠ t → k ≠ t + 2 → b k = sg k) ∧ b t 2 = sg t 2 ∧ b t 3 = (F_nms tx (F_sign c tx) (F_rc tx c) i).2 9 ∧ b t 4 = (F_sign c tx) ∧ ∀ j, j < i → b (t + 2) j = F_vals tx (F_sign c tx) (F_rc tx c) j) (fun i _ => [some (vR (some (4, 0, t))), some (vR (some (20, slen (kx (F_sign c tx)), 1000000 + kx (F_sign c tx)))), some (vI (nI i)), none]) (fun _ b => b) s1 rfl rfl hB0 (fun b hb => ?_) (fun i b hi hb ih => ?_)
    · refine V_iload_n hC kX4_readCommand_38 rfl ?_
      refine V_aload_n hC kX4_readCommand_39 rfl ?_
      refine V_getR hC hWr 4 1 lfX4_15 kX4_readCommand_40 (Nat.le_of_ble_eq_true rfl) (Nat.le_of_ble_eq_true rfl) rfl ?_
      refine V_alen hC _ kX4_readCommand_43 ⟨(Nat.le_of_ble_eq_true rfl), (Nat.le_of_ble_eq_true rfl)⟩ rfl ?_
      refine V_icmp_ge hC 101 kX4_readCommand_44 (by decide) (fun h44 => ?_) (fun h44 => ?_)
      · refine V_iconst hC (1) kX4_readCommand_101 (by decide) ?_
        refine V_iretz hC rfl kX4_readCommand_102 ?_ ?_
        · first | exact Or.inl rfl | exact Or.inr rfl
        · have e : cNext tx c = F_rd tx (F_sign c tx) (F_rc tx c) := if_pos hc
          have e1 : ¬ cNext tx c 10 = 0 := by rw [e]; exact hb.1
          refine ⟨_, by with_reducible rfl, hb.2.1, hb.2.2.1, ?_, (b01_t e1).symm, fun _ => ⟨hb.2.2.2.2.1, hc, hb.2.2.2.2.2⟩⟩
          rw [e]
          exact hb.2.2.2.1
      · refine V_iload_n hC kX4_readCommand_47 rfl ?_
        refine V_iconst hC (3) kX4_readCommand_48 (by decide) ?_
        refine V_imul hC kX4_readCommand_49 ?_
        refine V_iconst hC (2) kX4_readCommand_50 (by decide) ?_
        refine V_iadd hC kX4_readCommand_51 ?_
        refine V_aload_n hC kX4_readCommand_52 rfl ?_
        refine V_slen hC _ kX4_readCommand_53 rfl ?_
        refine V_icmp_ge hC 101 kX4_readCommand_54 (by decide) (fun h54 => ?_) (fun h54 => absurd h54 (not_not_intro ((ofN_le (by omega) (by omega)).mpr (by omega))))
        refine V_iconst hC (1) kX4_readCommand_101 (by decide) ?_
        refine V_iretz hC rfl kX4_readCommand_102 ?_ ?_
        · first | exact Or.inl rfl | exact Or.inr rfl
        · have e : cNext tx c = F_rd tx (F_sign c tx) (F_rc tx c) := if_pos hc
          have e1 : ¬ cNext tx c 10 = 0 := by rw [e]; exact hb.1
          refine ⟨_, by with_reducible rfl, hb.2.1, hb.2.2.1, ?_, (b01_t e1).symm, fun _ => ⟨hb.2.2.2.2.1, hc, hb.2.2.2.2.2⟩⟩
          rw [e]
          exact hb.2.2.2.1
    · obtain ⟨g1, g2, g3, g4, g5, g6⟩ := f5 i hi
      have hTi : TI (F_nms tx (F_sign c tx) (F_rc tx c) i).2 := hTI1.nms i
      have hT2 : TR b t tx n2 := hT.fr hb.2.2.1 (hb.2.1 _ (by omega) (by omega))
      have h8i : (F_nms tx (F_sign c tx) (F_rc tx c) i).2 8 = nI n2 := (nms_un (by decide) i).trans ((rc_un _ _ (by decide)).trans h8)
      refine V_iload_n hC kX4_readCommand_38 rfl ?_
      refine V_aload_n hC kX4_readCommand_39 rfl ?_
      refine V_getR hC hWr 4 1 lfX4_15 kX4_readCommand_40 (Nat.le_of_ble_eq_true rfl) (Nat.le_of_ble_eq_true rfl) rfl ?_
      refine V_alen hC _ kX4_readCommand_43 ⟨(Nat.le_of_ble_eq_true rfl), (Nat.le_of_ble_eq_true rfl)⟩ rfl ?_
      refine V_icmp_ge hC 101 kX4_readCommand_44 (by decide) (fun h44 => absurd h44 (nI_ge (b := 6) (by omega) (by decide))) (fun h44 => ?_)
      refine V_iload_n hC kX4_readCommand_47 rfl ?_
      refine V_iconst hC (3) kX4_readCommand_48 (by decide) ?_
      refine V_imul hC kX4_readCommand_49 ?_
      refine V_iconst hC (2) kX4_readCommand_50 (by decide) ?_
      refine V_iadd hC kX4_readCommand_51 ?_
      refine V_aload_n hC kX4_readCommand_52 rfl ?_
      refine V_slen hC _ kX4_readCommand_53 rfl ?_
      refine V_icmp_ge hC 101 kX4_readCommand_54 (by decide) (fun h54 => absurd h54 (fun z => by have := (ofN_le (by omega) (by omega)).mp z; omega)) (fun h54 => ?_)
      refine V_aload_n hC kX4_readCommand_57 rfl ?_
      refine V_aload_n hC kX4_readCommand_58 rfl ?_
      refine V_iload_n hC kX4_readCommand_59 rfl ?_
      refine V_iconst hC (3) kX4_readCommand_60 (by decide) ?_
      refine V_imul hC kX4_readCommand_61 ?_
      refine V_sald hC (3 * i) (by rw [show (3 : Int32) = nI 3 from rfl, pk_mul, Nat.mul_comm]; exact nI_clamp (by omega)) kX4_readCommand_62 (by rw [f2, show (3 : Int32) = nI 3 from rfl, pk_mul]; exact vp_in_nI (by omega) (by omega)) ?_
      refine V_aload_n hC kX4_readCommand_63 rfl ?_
      refine V_iload_n hC kX4_readCommand_64 rfl ?_
      refine V_iconst hC (3) kX4_readCommand_65 (by decide) ?_
      refine V_imul hC kX4_readCommand_66 ?_
      refine V_iconst hC (1) kX4_readCommand_67 (by decide) ?_
      refine V_iadd hC kX4_readCommand_68 ?_
      refine V_sald hC (3 * i + 1) (by rw [show (3 : Int32) = nI 3 from rfl, pk_mul, nI_1, Nat.mul_comm]; exact nI_clamp (by omega)) kX4_readCommand_69 (by rw [f2, show (3 : Int32) = nI 3 from rfl, pk_mul, nI_1]; exact vp_in_nI (by omega) (by omega)) ?_
      refine V_aload_n hC kX4_readCommand_70 rfl ?_
      refine V_iload_n hC kX4_readCommand_71 rfl ?_
      refine V_iconst hC (3) kX4_readCommand_72 (by decide) ?_
      refine V_imul hC kX4_readCommand_73 ?_
      refine V_iconst hC (2) kX4_readCommand_74 (by decide) ?_
      refine V_iadd hC kX4_readCommand_75 ?_
      refine V_sald hC (3 * i + 2) (by rw [show (3 : Int32) = nI 3 from rfl, show (2 : Int32) = nI 2 from rfl, pk_mul, nI_add, Nat.mul_comm]; exact nI_clamp (by omega)) kX4_readCommand_76 (by rw [f2, show (3 : Int32) = nI 3 from rfl, show (2 : Int32) = nI 2 from rfl, pk_mul, nI_add]; exact vp_in_nI (by omega) (by omega)) ?_
      rw [Nat.add_sub_cancel_left, g1, g2, g3]
      refine V_cV_fI hC (cl_readNumber hWr hT2 (d := (fm (F_sign c tx) i).1) (c := (F_nms tx (F_sign c tx) (F_rc tx c) i).2) (lo := (fm (F_sign c tx) i).2.1) (hi := (fm (F_sign c tx) i).2.2) g4 g5 hb.2.2.2.1 h8i hTi hb.1 g6) mkX4_readNumber lmX4_47 kX4_readCommand_77 (Nat.le_of_ble_eq_true rfl) rfl rfl rfl (Nat.le_of_ble_eq_true rfl) ⟨(Nat.le_of_ble_eq_true rfl), (Nat.le_of_ble_eq_true rfl)⟩ ⟨rfl, rfl⟩ ⟨(Nat.le_of_ble_eq_true rfl), (Nat.le_of_ble_eq_true rfl)⟩ ?_
      refine V_nameI (fun nv e_nv => ?_)
      refine V_istore_n hC [some _, some _, some _, some _] kX4_readCommand_80 rfl (Nat.le_of_ble_eq_true rfl) ?_
      have hS1 : (F_nms tx (F_sign c tx) (F_rc tx c) (i + 1)) = (F_num tx (fm (F_sign c tx) i).2.1 (fm (F_sign c tx) i).2.2 (fm (F_sign c tx) i).1 (F_nms tx (F_sign c tx) (F_rc tx c) i).2) := rfl
      refine V_iload_n hC kX4_readCommand_81 rfl ?_
      refine V_iconst hC (-1) kX4_readCommand_82 (by decide) ?_
      refine V_icmp_ne hC 88 kX4_readCommand_83 (by decide) (fun h83 => ?_) (fun h83 => ?_)
      · have hwl : ¬ (F_nms tx (F_sign c tx) (F_rc tx c) (i + 1)).2 10 = 0 := fun z => h83 (by rw [e_nv]; exact if_pos z)
        have e_nv2 : nv = (F_num tx (fm (F_sign c tx) i).2.1 (fm (F_sign c tx) i).2.2 (fm (F_sign c tx) i).1 (F_nms tx (F_sign c tx) (F_rc tx c) i).2).1 := by rw [e_nv]; exact if_neg hwl
        refine V_aload_n hC kX4_readCommand_88 rfl ?_
        refine V_getR hC hWr 4 1 lfX4_15 kX4_readCommand_89 (Nat.le_of_ble_eq_true rfl) (Nat.le_of_ble_eq_true rfl) rfl ?_
        refine V_iload_n hC kX4_readCommand_92 rfl ?_
        refine V_iload_n hC kX4_readCommand_93 rfl ?_
        refine V_iast hC i (nI_clamp (by omega)) kX4_readCommand_94 (vp_in_nI (by omega) (by decide)) ?_
        refine V_iinc hC (_ + 1) [some _, some _, some _, some _] kX4_readCommand_95 rfl rfl rfl (Nat.le_of_ble_eq_true rfl) ?_
        refine V_goto hC 38 kX4_readCommand_98 (by decide) ?_
        refine V_drop 3 [_, _, _, none] rfl ?_
        refine V_eq (by rw [nI_succ]) rfl (ih _ ⟨hwl, fun k h1 h2 => ?_, ?_, ?_, ?_, fun j hj => ?_⟩)
        · rw [ups_ne _ _ _ h2, ups_ne _ _ _ h1, hb.2.1 k h1 h2]
        · rw [ups_ne _ _ _ (by omega), ups_v, if_neg (by omega), hb.2.2.1]
        · rw [ups_ne _ _ _ (by omega), ups_s]
          rfl
        · rw [ups_ne _ _ _ (by omega), ups_v, if_neg (by omega), hb.2.2.2.2.1]
        · rw [ups_v]
          by_cases e : j = i
          · subst e
            rw [if_pos ⟨rfl, rfl⟩, e_nv2]
            rfl
          · rw [if_neg (by omega), ups_ne _ _ _ (by omega)]
            exact hb.2.2.2.2.2 j (by omega)
      · refine V_iconst hC (0) kX4_readCommand_86 (by decide) ?_
        refine V_iretz hC rfl kX4_readCommand_87 ?_ ?_
        · first | exact Or.inl rfl | exact Or.inr rfl
        · have hbad : (F_nms tx (F_sign c tx) (F_rc tx c) (i + 1)).2 10 = 0 := Classical.byContradiction (fun z => by
            rw [hS1] at z
            obtain ⟨xv, hx1, hx2⟩ := num_val g5 z
            rw [if_neg z, hx2] at e_nv
            rw [e_nv] at h83
            exact nI_m1 (by omega) h83)
          obtain ⟨k1, k2⟩ := nms_stop hbad (nfm (F_sign c tx) - (i + 1))
          rw [show i + 1 + (nfm (F_sign c tx) - (i + 1)) = nfm (F_sign c tx) by omega] at k1 k2
          have e : cNext tx c = F_rd tx (F_sign c tx) (F_rc tx c) := if_pos hc
          have e0 : cNext tx c 10 = 0 := by rw [e]; exact k1
          refine ⟨_, by with_reducible rfl, fun k h1 h2 => by rw [ups_ne _ _ _ h1, hb.2.1 k h1 h2], by rw [ups_v, if_neg (by omega), hb.2.2.1], ?_, (b01_f (fun z => z e0)).symm, fun z => absurd e0 z⟩
          rw [ups_s, e]
          exact k2.symm
  · refine V_cS_fR hC (cl_formN hWr hc) mkX4_formOf lmX4_43 kX4_readCommand_16 rfl rfl (Nat.le_of_ble_eq_true rfl) ⟨(Nat.le_of_ble_eq_true rfl), (Nat.le_of_ble_eq_true rfl)⟩ ⟨rfl, rfl⟩ ⟨(Nat.le_of_ble_eq_true rfl), (Nat.le_of_ble_eq_true rfl)⟩ ?_
    refine V_astore_n hC [some _, some _, none, none] kX4_readCommand_19 rfl (Nat.le_of_ble_eq_true rfl) ?_
    refine V_aload_n hC kX4_readCommand_20 rfl ?_
    refine V_ifnonnull hC 26 kX4_readCommand_21 (by decide) (fun _ hq => by cases hq) (fun _ => ?_)
    refine V_iconst hC (0) kX4_readCommand_24 (by decide) ?_
    refine V_iretz hC rfl kX4_readCommand_25 ?_ ?_
    · first | exact Or.inl rfl | exact Or.inr rfl
    · have e : cNext tx c = F_rc tx c := if_neg hc
      have e0 : F_rc tx c 10 = 0 := by rw [rc_10, b01_f hc]
      refine ⟨_, by with_reducible rfl, fun k h1 h2 => ups_ne _ _ _ h1, by rw [ups_v, if_neg (by omega)], ?_, ?_, fun z => absurd (by rw [e]; exact e0) z⟩
      · rw [ups_v, if_neg (by omega), e, rc_9, b01_f hc, Int32.add_zero, hat]
      · rw [e, e0]
        exact (b01_f (fun z => z rfl)).symm
theorem rds_more (tx c g : Gs) (d : Int32) {n : Nat} (hn : n ≤ 120) (en : c 8 = nI n) (hI : Inv g) : ∃ (S : Nat → Gs × Gs) (N : Nat), S 0 = (F_r0 tx c d, g) ∧ F_reads tx c g d = S N ∧ ¬ P_rg (S N) ∧ (∀ i, i < N → P_rg (S i)) ∧ (∀ i, i ≤ N → TI (S i).1) ∧ (∀ i, Inv (S i).2) ∧ (∀ i, S (i + 1) = F_rstep tx (S i)) ∧ (∀ i, i < N → i < 120) ∧ (∀ i, (S i).1 8 = nI n) ∧ (∀ i, (S i).1 11 = d) := by
  have h0 : TI (F_r0 tx c d, g).1 := TI_r0 hn en d
  have e8 : ∀ i, (F_rds tx (F_r0 tx c d, g) i).1 8 = nI n := fun i => by
    rw [rds_un (by decide)]
    show F_r0 tx c d 8 = nI n
    unfold F_r0 F_ra
    rw [pk_un (by decide), pk_un (by decide), pk_un (by decide), pk_un (by decide), pk_un (by decide), en]
  refine ⟨F_rds tx (F_r0 tx c d, g), F_rN tx (F_r0 tx c d, g), rfl, rfl, rN_no h0, fun i hi => rN_go hi, fun i hi => rds_TI h0 i (fun j hj => rN_go (by omega)), fun i => Inv_rds hI i, fun i => rfl, fun i hi => ?_, e8, fun i => (rds_un (by decide) i).trans (r0_11 tx c d)⟩
  have hp := rN_go hi
  have h1 := rds_up h0 i (fun j hj => rN_go (by omega)) hp.1
  obtain ⟨a, m, h2, h3, h4, h5⟩ := rds_TI (tx := tx) h0 i (fun j hj => rN_go (by omega))
  have hl := hp.2
  rw [h2, h3] at hl
  have := (nI_ltI (by omega) (by omega)).mp hl
  rw [h2, show tn (nI a) = a from nI_clamp (by omega)] at h1
  omega
theorem rstep_next (tx : Gs) (q : Gs × Gs) {j : Nat} (h : j ≠ 12) : (F_rstep tx q).1 j = cNext tx q.1 j := by
  unfold F_rstep cNext
  split
  · exact pk_un h
  · rfl
theorem b01_b01 (c : Prop) [Decidable c] : b01 (¬ b01 c = 0) = b01 c := b01_iff b01n
def mtX4_errorPlace : Mt := (yX4_errorPlace, cX4_errorPlace, 3, (some .int), 3, 71, 0, 0)
theorem kX4_errorPlace_0 : Dk mtX4_errorPlace 0 (.aload_n 0) 1 1 := ⟨by decide +kernel, rfl⟩
theorem kX4_errorPlace_1 : Dk mtX4_errorPlace 1 (.invokevirtual 23) 3 4 := ⟨by decide +kernel, rfl⟩
theorem kX4_errorPlace_4 : Dk mtX4_errorPlace 4 (.istore_n 1) 1 5 := ⟨by decide +kernel, rfl⟩
theorem kX4_errorPlace_5 : Dk mtX4_errorPlace 5 (.iconst 0) 1 6 := ⟨by decide +kernel, rfl⟩
theorem kX4_errorPlace_6 : Dk mtX4_errorPlace 6 (.istore_n 2) 1 7 := ⟨by decide +kernel, rfl⟩
theorem kX4_errorPlace_7 : Dk mtX4_errorPlace 7 (.iload_n 2) 1 8 := ⟨by decide +kernel, rfl⟩
theorem kX4_errorPlace_8 : Dk mtX4_errorPlace 8 (.bipush 120) 2 10 := ⟨by decide +kernel, rfl⟩
theorem kX4_errorPlace_10 : Dk mtX4_errorPlace 10 (.if_icmp .ge 25) 3 13 := ⟨by decide +kernel, rfl⟩
theorem kX4_errorPlace_13 : Dk mtX4_errorPlace 13 (.iload_n 1) 1 14 := ⟨by decide +kernel, rfl⟩
theorem kX4_errorPlace_14 : Dk mtX4_errorPlace 14 (.ifCond .eq 21) 3 17 := ⟨by decide +kernel, rfl⟩
theorem kX4_errorPlace_17 : Dk mtX4_errorPlace 17 (.aload_n 0) 1 18 := ⟨by decide +kernel, rfl⟩
theorem kX4_errorPlace_18 : Dk mtX4_errorPlace 18 (.invokevirtual 27) 3 21 := ⟨by decide +kernel, rfl⟩
theorem kX4_errorPlace_21 : Dk mtX4_errorPlace 21 (.ifCond .eq 14) 3 24 := ⟨by decide +kernel, rfl⟩
theorem kX4_errorPlace_24 : Dk mtX4_errorPlace 24 (.aload_n 0) 1 25 := ⟨by decide +kernel, rfl⟩
theorem kX4_errorPlace_25 : Dk mtX4_errorPlace 25 (.invokevirtual 30) 3 28 := ⟨by decide +kernel, rfl⟩
theorem kX4_errorPlace_28 : Dk mtX4_errorPlace 28 (.istore_n 1) 1 29 := ⟨by decide +kernel, rfl⟩
theorem kX4_errorPlace_29 : Dk mtX4_errorPlace 29 (.iinc 2 1) 3 32 := ⟨by decide +kernel, rfl⟩
theorem kX4_errorPlace_32 : Dk mtX4_errorPlace 32 (.goto (-25)) 3 35 := ⟨by decide +kernel, rfl⟩
theorem kX4_errorPlace_35 : Dk mtX4_errorPlace 35 (.iload_n 1) 1 36 := ⟨by decide +kernel, rfl⟩
theorem kX4_errorPlace_36 : Dk mtX4_errorPlace 36 (.ifCond .eq 7) 3 39 := ⟨by decide +kernel, rfl⟩
theorem kX4_errorPlace_39 : Dk mtX4_errorPlace 39 (.iconst (-1)) 1 40 := ⟨by decide +kernel, rfl⟩
theorem kX4_errorPlace_40 : Dk mtX4_errorPlace 40 (.goto 7) 3 43 := ⟨by decide +kernel, rfl⟩
theorem kX4_errorPlace_43 : Dk mtX4_errorPlace 43 (.aload_n 0) 1 44 := ⟨by decide +kernel, rfl⟩
theorem kX4_errorPlace_44 : Dk mtX4_errorPlace 44 (.getfield 33) 3 47 := ⟨by decide +kernel, rfl⟩
theorem kX4_errorPlace_47 : Dk mtX4_errorPlace 47 (.ireturn) 1 48 := ⟨by decide +kernel, rfl⟩
theorem lmX4_23 : LkM RX4 23 mtX4_readHead := Or.inl (by decide +kernel)
theorem mkX4_readHead : MkV mtX4_readHead 0 := ⟨List.mem_of_getElem? (i := 315) (by decide +kernel), by decide +kernel, by decide +kernel, by decide +kernel, ⟨by decide +kernel, by decide +kernel, by decide +kernel⟩⟩
theorem lmX4_27 : LkM RX4 27 mtX4_hasMore := Or.inl (by decide +kernel)
theorem mkX4_hasMore : MkV mtX4_hasMore 0 := ⟨List.mem_of_getElem? (i := 323) (by decide +kernel), by decide +kernel, by decide +kernel, by decide +kernel, ⟨by decide +kernel, by decide +kernel, by decide +kernel⟩⟩
theorem lmX4_30 : LkM RX4 30 mtX4_readCommand := Or.inl (by decide +kernel)
theorem mkX4_readCommand : MkV mtX4_readCommand 0 := ⟨List.mem_of_getElem? (i := 327) (by decide +kernel), by decide +kernel, by decide +kernel, by decide +kernel, ⟨by decide +kernel, by decide +kernel, by decide +kernel⟩⟩
set_option maxHeartbeats 4000000 in
set_option maxRecDepth 100000 in
theorem cl_errorPlace {l : Launch} {w : Wd} {sg : Sg} (hWr : Wr w) {t n : Nat} {tx : Gs} (hT : TR sg t tx n) {c g : Gs} (h8 : c 8 = nI n) (hI : Inv g) : M l mtX4_errorPlace w [vR (some (4, 0, t))] sg (rI (fun x sg2 => x = F_err (F_reads tx c g 0).1 ∧ (∀ k, k ≠ t → k ≠ t + 2 → sg2 k = sg k) ∧ sg2 t 2 = sg t 2)) := by
  refine M_of [some (vR (some (4, 0, t))), none, none] rfl (Nat.le_of_ble_eq_true rfl) (by decide +kernel) ?_
  intro p_ e_ s_ m_ args_ below_ meth_ c_ hC hO
  have hn := hT.2.1
  obtain ⟨S, N, hS0, hRd, hNo, hgo0, hTi0, hIi0, hst, hN, h8S, h11⟩ := rds_more tx c g 0 hn h8 hI
  refine V_aload_n hC kX4_errorPlace_0 rfl ?_
  refine V_cV_fI hC (cl_readHead hWr hT h8 0) mkX4_readHead lmX4_23 kX4_errorPlace_1 (Nat.le_of_ble_eq_true rfl) rfl rfl rfl (Nat.le_of_ble_eq_true rfl) ⟨(Nat.le_of_ble_eq_true rfl), (Nat.le_of_ble_eq_true rfl)⟩ ⟨rfl, rfl⟩ ⟨(Nat.le_of_ble_eq_true rfl), (Nat.le_of_ble_eq_true rfl)⟩ ?_
  refine V_nameI (fun go0 e_go0 => ?_)
  refine V_istore_n hC [some _, some _, none] kX4_errorPlace_4 rfl (Nat.le_of_ble_eq_true rfl) ?_
  replace e_go0 : go0 = b01 (¬ (S 0).1 10 = 0) := e_go0.trans (by rw [hS0]; show _ = b01 (¬ F_r0 tx c 0 10 = 0); rw [r0_10, b01_b01])
  subst e_go0
  refine V_iconst hC (0) kX4_errorPlace_5 (by decide) ?_
  refine V_istore_n hC [some _, some _, some _] kX4_errorPlace_6 rfl (Nat.le_of_ble_eq_true rfl) ?_
  refine V_nameS (fun s1 e_s1 => ?_)
  have hB0 : (∀ k, k ≠ t → k ≠ t + 2 → s1 k = sg k) ∧ s1 t 2 = sg t 2 ∧ s1 t 3 = (S 0).1 9 := by
    rw [e_s1, hS0]
    exact ⟨fun k h1 h2 => ups_ne _ _ _ h1, by rw [ups_v, if_neg (by omega)], ups_s _ _ _ _⟩
  refine V_loopR N (fun i b => (∀ k, k ≠ t → k ≠ t + 2 → b k = sg k) ∧ b t 2 = sg t 2 ∧ b t 3 = (S i).1 9) (fun i _ => [some (vR (some (4, 0, t))), some (vI (b01 (¬ (S i).1 10 = 0))), some (vI (nI i))]) (fun _ b => b) s1 rfl rfl hB0 (fun b hb => ?_) (fun i b hi hb ih => ?_)
  · obtain ⟨a, m, t1, t2, t3, t4⟩ := hTi0 N (Nat.le_refl _)
    have em : m = n := (nI_eq (by omega) (by omega)).mp (t2.symm.trans (h8S N))
    subst em
    refine V_iload_n hC kX4_errorPlace_7 rfl ?_
    refine V_bipush hC (120) kX4_errorPlace_8 (by decide) ?_
    refine V_icmp_ge hC 35 kX4_errorPlace_10 (by decide) (fun h10 => ?_) (fun h10 => ?_)
    · refine V_iload_n hC kX4_errorPlace_35 rfl ?_
      refine V_if_eq hC 43 kX4_errorPlace_36 (by decide) (fun h36 => ?_) (fun h36 => ?_)
      · refine V_aload_n hC kX4_errorPlace_43 rfl ?_
        refine V_getI hC 4 3 lfX4_33 kX4_errorPlace_44 (Nat.le_of_ble_eq_true rfl) (Nat.le_of_ble_eq_true rfl) rfl ?_
        refine V_ireti hC rfl kX4_errorPlace_47 ?_
        refine ⟨_, by with_reducible rfl, ?_, hb.1, hb.2.1⟩
        rw [hRd, F_err]
        first
        | (rw [if_pos (Classical.not_not.mp (b01e.mp h36)), hb.2.2]; done)
        | (rw [if_neg (b01n.mp h36)]; done)
      · refine V_iconst hC (-1) kX4_errorPlace_39 (by decide) ?_
        refine V_goto hC 47 kX4_errorPlace_40 (by decide) ?_
        refine V_ireti hC rfl kX4_errorPlace_47 ?_
        refine ⟨_, by with_reducible rfl, ?_, hb.1, hb.2.1⟩
        rw [hRd, F_err]
        first
        | (rw [if_pos (Classical.not_not.mp (b01e.mp h36)), hb.2.2]; done)
        | (rw [if_neg (b01n.mp h36)]; done)
    · refine V_iload_n hC kX4_errorPlace_13 rfl ?_
      refine V_if_eq hC 35 kX4_errorPlace_14 (by decide) (fun h14 => ?_) (fun h14 => ?_)
      · refine V_iload_n hC kX4_errorPlace_35 rfl ?_
        refine V_if_eq hC 43 kX4_errorPlace_36 (by decide) (fun h36 => ?_) (fun h36 => ?_)
        · refine V_aload_n hC kX4_errorPlace_43 rfl ?_
          refine V_getI hC 4 3 lfX4_33 kX4_errorPlace_44 (Nat.le_of_ble_eq_true rfl) (Nat.le_of_ble_eq_true rfl) rfl ?_
          refine V_ireti hC rfl kX4_errorPlace_47 ?_
          refine ⟨_, by with_reducible rfl, ?_, hb.1, hb.2.1⟩
          rw [hRd, F_err]
          first
          | (rw [if_pos (Classical.not_not.mp (b01e.mp h36)), hb.2.2]; done)
          | (rw [if_neg (b01n.mp h36)]; done)
        · refine V_iconst hC (-1) kX4_errorPlace_39 (by decide) ?_
          refine V_goto hC 47 kX4_errorPlace_40 (by decide) ?_
          refine V_ireti hC rfl kX4_errorPlace_47 ?_
          refine ⟨_, by with_reducible rfl, ?_, hb.1, hb.2.1⟩
          rw [hRd, F_err]
          first
          | (rw [if_pos (Classical.not_not.mp (b01e.mp h36)), hb.2.2]; done)
          | (rw [if_neg (b01n.mp h36)]; done)
      · refine V_aload_n hC kX4_errorPlace_17 rfl ?_
        refine V_cV_fI hC (cl_hasMore hWr (a := a) (n := m) (by rw [hb.2.1, hT.1]) (by rw [hb.2.2, t1]) t4 t3) mkX4_hasMore lmX4_27 kX4_errorPlace_18 (Nat.le_of_ble_eq_true rfl) rfl rfl rfl (Nat.le_of_ble_eq_true rfl) ⟨(Nat.le_of_ble_eq_true rfl), (Nat.le_of_ble_eq_true rfl)⟩ ⟨rfl, rfl⟩ ⟨(Nat.le_of_ble_eq_true rfl), (Nat.le_of_ble_eq_true rfl)⟩ ?_
        refine V_if_eq hC 35 kX4_errorPlace_21 (by decide) (fun h21 => ?_) (fun h21 => absurd h21 (fun z => hNo ⟨fun q => h14 (b01_f (fun y => y q)), by rw [t1, t2]; exact (nI_ltI (by omega) (by omega)).mpr (b01n.mp z)⟩))
        refine V_iload_n hC kX4_errorPlace_35 rfl ?_
        refine V_if_eq hC 43 kX4_errorPlace_36 (by decide) (fun h36 => ?_) (fun h36 => ?_)
        · refine V_aload_n hC kX4_errorPlace_43 rfl ?_
          refine V_getI hC 4 3 lfX4_33 kX4_errorPlace_44 (Nat.le_of_ble_eq_true rfl) (Nat.le_of_ble_eq_true rfl) rfl ?_
          refine V_ireti hC rfl kX4_errorPlace_47 ?_
          refine ⟨_, by with_reducible rfl, ?_, hb.1, hb.2.1⟩
          rw [hRd, F_err]
          first
          | (rw [if_pos (Classical.not_not.mp (b01e.mp h36)), hb.2.2]; done)
          | (rw [if_neg (b01n.mp h36)]; done)
        · refine V_iconst hC (-1) kX4_errorPlace_39 (by decide) ?_
          refine V_goto hC 47 kX4_errorPlace_40 (by decide) ?_
          refine V_ireti hC rfl kX4_errorPlace_47 ?_
          refine ⟨_, by with_reducible rfl, ?_, hb.1, hb.2.1⟩
          rw [hRd, F_err]
          first
          | (rw [if_pos (Classical.not_not.mp (b01e.mp h36)), hb.2.2]; done)
          | (rw [if_neg (b01n.mp h36)]; done)
  · have hgo := hgo0 i hi
    have hTi := hTi0 i (Nat.le_of_lt hi)
    obtain ⟨a, m, t1, t2, t3, t4⟩ := id hTi
    have em : m = n := (nI_eq (by omega) (by omega)).mp (t2.symm.trans (h8S i))
    subst em
    have ham : a < m := (nI_ltI (by omega) (by omega)).mp (by rw [← t1, ← t2]; exact hgo.2)
    have hT2 : TR b t tx m := hT.fr hb.2.1 (hb.1 _ (by omega) (by omega))
    refine V_iload_n hC kX4_errorPlace_7 rfl ?_
    refine V_bipush hC (120) kX4_errorPlace_8 (by decide) ?_
    refine V_icmp_ge hC 35 kX4_errorPlace_10 (by decide) (fun h10 => absurd h10 (by exact nI_ge (b := 120) (hN i hi) (by decide))) (fun h10 => ?_)
    refine V_iload_n hC kX4_errorPlace_13 rfl ?_
    refine V_if_eq hC 35 kX4_errorPlace_14 (by decide) (fun h14 => absurd h14 (fun z => b01e.mp z hgo.1)) (fun h14 => ?_)
    refine V_aload_n hC kX4_errorPlace_17 rfl ?_
    refine V_cV_fI hC (cl_hasMore hWr (a := a) (n := m) (by rw [hb.2.1, hT.1]) (by rw [hb.2.2, t1]) t4 t3) mkX4_hasMore lmX4_27 kX4_errorPlace_18 (Nat.le_of_ble_eq_true rfl) rfl rfl rfl (Nat.le_of_ble_eq_true rfl) ⟨(Nat.le_of_ble_eq_true rfl), (Nat.le_of_ble_eq_true rfl)⟩ ⟨rfl, rfl⟩ ⟨(Nat.le_of_ble_eq_true rfl), (Nat.le_of_ble_eq_true rfl)⟩ ?_
    refine V_if_eq hC 35 kX4_errorPlace_21 (by decide) (fun h21 => absurd h21 (fun z => b01e.mp z ham)) (fun h21 => ?_)
    refine V_aload_n hC kX4_errorPlace_24 rfl ?_
    refine V_cV_rI hC (cl_readCommand hWr hT2 (c := (S i).1) hb.2.2 (h8S i) hTi hgo.1 hgo.2) mkX4_readCommand lmX4_30 kX4_errorPlace_25 (Nat.le_of_ble_eq_true rfl) rfl rfl rfl (Nat.le_of_ble_eq_true rfl) ⟨(Nat.le_of_ble_eq_true rfl), (Nat.le_of_ble_eq_true rfl)⟩ ⟨rfl, rfl⟩ ⟨(Nat.le_of_ble_eq_true rfl), (Nat.le_of_ble_eq_true rfl)⟩ (fun x25 g25 h25 => ?_)
    refine V_istore_n hC [some _, some _, some _] kX4_errorPlace_28 rfl (Nat.le_of_ble_eq_true rfl) ?_
    refine V_iinc hC (_ + 1) [some _, some _, some _] kX4_errorPlace_29 rfl rfl rfl (Nat.le_of_ble_eq_true rfl) ?_
    refine V_goto hC 7 kX4_errorPlace_32 (by decide) ?_
    obtain ⟨p1, p2, p3, p4, p5⟩ := h25
    refine V_eq ?_ rfl (ih _ ⟨fun k h1 h2 => ?_, ?_, ?_⟩)
    · rw [nI_succ, p4, hst, rstep_next tx _ (by decide)]
    · rw [p1 k h1 h2, hb.1 k h1 h2]
    · rw [p2, hb.2.1]
    · rw [p3, hst, rstep_next tx _ (by decide)]
