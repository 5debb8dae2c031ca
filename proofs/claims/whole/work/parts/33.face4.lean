-- HOW ct_in fI
-- HOW ct_fails fI
-- HOW ct_of fI
-- HOW ct_ofBoat fI
-- HOW ct_layBoat fV
-- HOW ct_isLight fI
-- HOW ct_isBoat fI
-- HOW ct_isPlace fI
-- HOW ct_bright fI
-- HOW ct_worth fI
-- HOW ct_serves fI
-- HOW ct_best fI
-- HOW ct_sails fV
-- HOW ct_drops fV
-- HOW ct_wished fI
-- HOW ct_hands fV
-- HOW ct_wishes fV
-- HOW ct_finds fV
-- HOW ct_goesOn fV
-- HOW ct_goesTick fV
-- HOW ct_goesBy fI
-- HOW ct_putAside fV
-- HOW ct_takeBack fV
-- HOW ct_isLamp fI
-- HOW ct_addsLight fI
-- HOW ct_actsLight fI
-- HOW ct_addsBoat fI
-- HOW ct_actsBoat fI
-- HOW ct_actsSteer fI
-- HOW ct_canTalk fI
-- HOW ct_actsTalk fI
-- HOW ct_actsLean fI
-- HOW ct_actsDim fI
-- HOW ct_mostOf fI
-- HOW ct_isSetting fI
-- HOW ct_actsSet fI
-- HOW ct_actsTicks fI
-- HOW ct_boatsThat fI
-- HOW ct_servedBy fI
-- HOW ct_begins fV
-- HOW ct_tellsAbout fI
-- HOW ct_about fM
-- HOW ct_lightOf fM
-- HOW ct_boatOf fM
-- HOW ct_brightness fM
-- HOW ct_bestAt fM
-- HOW ct_setting fM
-- HOW ct_saves fV
-- HOW ct_light fM
-- HOW ct_boat fM
-- HOW ct_steer fM
-- HOW ct_talk fM
-- HOW ct_lean fM
-- HOW ct_dim fM
-- HOW ct_set fM
-- HOW ct_ticks fM
-- HOW ct_undo fM
-- HOW ct_save fM
-- HOW ct_restore fM
-- HOW ct_bringsBy fI
-- HOW ct_ifMargin fM
-- HOW ct_held fI
-- HOW ct_room fI
-- HOW ct_dark fI
-- HOW ct_turns fV
-- HOW ct_simulate fM
-- HOW ct_border fM
-- HOW ct_handedIn fM
-- HOW ct_bestMargin fM
-- HOW ct_thrown fI
-- HOW ct_sign fI
-- HOW ct_number fI
-- HOW ct_carriesLight fI
-- HOW ct_carries fI
-- HOW ct_isCommand fI
-- HOW ct_append fM
-- HOW ct_clearText fM
-- HOW ct_readsAll fV
-- HOW ct_errorPosition fI
-- HOW ct_load rI
-- HOW ct_pair fI
-- HOW ct_laysFigures fV
-- HOW ct_succeeds fI
-- HOW ct_runScript rI
-- HOW cl_isPlace fI
-- HOW cl_isSpeed fI
-- HOW cl_isStrength fI
-- HOW cl_isTickCount fI
-- HOW cl_isSetting fI
-- HOW cl_isSlot fI
-- HOW cl_isSettingValue fI
-- HOW cl_shown fI
-- HOW cl_withoutGroups fL
-- HOW cl_lbegin fV
-- HOW cl_lcopy fV
-- HOW cl_bcopy fV
-- HOW cl_lnum fI
-- HOW cl_bnum fI
-- HOW cl_bright fI
-- HOW cl_worth fI
-- HOW cl_bitCount fI
-- HOW cl_servedCount fI
-- HOW cl_takesHandedOn fI
-- HOW cl_takesOthers fI
-- HOW cl_bbegin fV
-- HOW cl_move fV
-- HOW cl_wishFor fV
-- HOW cl_lightR fR
-- HOW cl_lightN fR
-- HOW cl_boatR fR
-- HOW cl_boatN fR
-- HOW cl_setR fI
-- HOW cl_lightAt fR
-- HOW cl_lightAtNo fR
-- HOW cl_boatAt fR
-- HOW cl_boatAtNo fR
-- HOW cl_settingOf fI
-- HOW cl_servedBoats fI
-- HOW cl_talkingBoats fI
-- HOW cl_numberOf fI
-- HOW cl_brightest fI
-- HOW cl_isDark fI
-- HOW cl_freePlaces fI
-- HOW cl_isServing fI
-- HOW cl_isServingAtLeast fI
-- HOW cl_isBoatAt fI
-- HOW cl_lightFault fI
-- HOW cl_boatFault fI
-- HOW cl_steerFault fI
-- HOW cl_dimFault fI
-- HOW cl_leanFault fI
-- HOW cl_talkFault fI
-- HOW cl_putSpeed rI
-- HOW cl_putTalk rI
-- HOW cl_putLeaning rI
-- HOW cl_putStrength rI
-- HOW cl_putSetting rI
-- HOW cl_addLight rI
-- HOW cl_addBoat rI
-- HOW cl_tryLight rI
-- HOW cl_tryBoat rI
-- HOW cl_trySteer rI
-- HOW cl_tryTalk rI
-- HOW cl_tryLean rI
-- HOW cl_tryDim rI
-- HOW cl_trySet rI
-- HOW cl_serve rV
-- HOW cl_lose rV
-- HOW cl_bestWish fI
-- HOW cl_seekKeeper rV
-- HOW cl_ask rV
-- HOW cl_setW fI
-- HOW cl_sail rV
-- HOW cl_pass rV
-- HOW cl_reset rV
-- HOW cl_copyFrom rV
-- HOW cl_stateAt fR
-- HOW cl_slotAt fR
-- HOW cl_hasStates fI
-- HOW cl_mreset rV
-- HOW cl_remember rV
-- HOW cl_takeBack rI
-- HOW cl_isKept fI
-- HOW cl_keep rV
-- HOW cl_bring rV
-- HOW cl_isFull fI
-- HOW cl_add fI
-- HOW cl_empty fI
-- HOW cl_hasMore fI
-- HOW cl_signAt fI
-- HOW cl_number fI
-- HOW cl_formOf fR
-- HOW cl_readNumber fI
-- HOW cl_formY fR
-- HOW cl_formN fR
-- HOW cl_readHead fI
-- HOW cl_readCommand rI
-- HOW cl_errorPlace rI
-- HOW cl_gained fI
-- HOW cl_tryMargin rV
-- HOW cl_until rI
-- HOW cl_dark fI
-- HOW cl_room fI
-- HOW cl_takeTurn rV
-- HOW cl_runCommand rI
-- HOW cl_obey rI
-- HOW cl_throwFault xV
-- HOW cf_about xI
-- HOW cf_lightOf xI
-- HOW cf_boatOf xI
-- HOW cf_brightness xI
-- HOW cf_bestAt xI
-- HOW cf_setting xI
-- HOW cf_light xI
-- HOW cf_boat xI
-- HOW cf_steer xI
-- HOW cf_talk xI
-- HOW cf_lean xI
-- HOW cf_dim xI
-- HOW cf_set xI
-- HOW cf_ticks xI
-- HOW cf_undo xI
-- HOW cf_save xI
-- HOW cf_restore xI
-- HOW cf_append xI
-- HOW cf_clearText fI
-- HOW cf_ifMargin xI
-- HOW cf_handedIn xI
-- HOW cf_errorPosition rI
-- HOW cf_simulate xI
-- HOW cf_border xI
-- HOW cf_bestMargin xI
-- HOW cf_runScript xI
/-! the class's face: scripts -/
theorem nsub : ∀ N, N ≤ 3 → ∀ i, i < N → nI N - 1 - nI i = nI (N - 1 - i) := by decide
theorem cg {S N i : Nat} (hS : S < 10 ^ 18) : (lN (S / 10 ^ (6 * (N - 1 - i))) - lN (S / 10 ^ (6 * (N - 1 - i))) / 1000000 * 1000000).toInt32 = nI (grp S N i) := by
  have h := Nat.div_le_self S (10 ^ (6 * (N - 1 - i)))
  have := pk_lRem (a := S / 10 ^ (6 * (N - 1 - i))) (b := 1000000) (by omega) (by decide) (by decide)
  rw [show (lN 1000000 : Int64) = 1000000 from rfl] at this
  rw [this, lN_i]
  rfl
theorem fgs_0 (old : Gs) (S N i : Nat) : tn (fgs old S N i 0) = grp S N i / 100000 := by
  have h := grp_lt S N i
  have e : ∀ {m : Nat}, m < 10 → tn (nI m) = m := fun {m} hm => nI_clamp (by omega)
  rw [fgs, figN_at _ _ (by decide : 0 < 6), e (Nat.mod_lt _ (by decide))]
  have : (10 : Nat) ^ (5 - 0) = 100000 := by decide
  rw [this]
  omega
theorem cmp0 {q : Nat} (hq : q < 2 ^ 63) : lg_cmp (lN q) 0 ≤ 0 ↔ q = 0 := by
  have h0 : (0 : Int64) = lN 0 := rfl
  rw [h0, lg_cmp_le, ← Int64.not_lt, pk_lLT (by decide) hq]
  omega
theorem div0 {S p : Nat} (hp : 0 < p) : S / p = 0 ↔ S < p := by
  rw [Nat.div_eq_zero_iff]
  omega
def mtX5_runScript : Mt := (yX5_runScript, cX5_runScript, 5, (some .int), 7, 221, 1, 6)
theorem kX5_runScript_0 : Dk mtX5_runScript 0 (.iload_n 1) 1 1 := ⟨by decide +kernel, rfl⟩
theorem kX5_runScript_1 : Dk mtX5_runScript 1 (.iconst 1) 1 2 := ⟨by decide +kernel, rfl⟩
theorem kX5_runScript_2 : Dk mtX5_runScript 2 (.if_icmp .lt 8) 3 5 := ⟨by decide +kernel, rfl⟩
theorem kX5_runScript_5 : Dk mtX5_runScript 5 (.iload_n 1) 1 6 := ⟨by decide +kernel, rfl⟩
theorem kX5_runScript_6 : Dk mtX5_runScript 6 (.iconst 3) 1 7 := ⟨by decide +kernel, rfl⟩
theorem kX5_runScript_7 : Dk mtX5_runScript 7 (.if_icmp .le 14) 3 10 := ⟨by decide +kernel, rfl⟩
theorem kX5_runScript_10 : Dk mtX5_runScript 10 (.new 33) 3 13 := ⟨by decide +kernel, rfl⟩
theorem kX5_runScript_13 : Dk mtX5_runScript 13 (.dup) 1 14 := ⟨by decide +kernel, rfl⟩
theorem kX5_runScript_14 : Dk mtX5_runScript 14 (.ldc_w 270) 3 17 := ⟨by decide +kernel, rfl⟩
theorem kX5_runScript_17 : Dk mtX5_runScript 17 (.invokespecial 37) 3 20 := ⟨by decide +kernel, rfl⟩
theorem kX5_runScript_20 : Dk mtX5_runScript 20 (.athrow) 1 21 := ⟨by decide +kernel, rfl⟩
theorem kX5_runScript_21 : Dk mtX5_runScript 21 (.lload_n 2) 1 22 := ⟨by decide +kernel, rfl⟩
theorem kX5_runScript_22 : Dk mtX5_runScript 22 (.lconst 0) 1 23 := ⟨by decide +kernel, rfl⟩
theorem kX5_runScript_23 : Dk mtX5_runScript 23 (.lcmp) 1 24 := ⟨by decide +kernel, rfl⟩
theorem kX5_runScript_24 : Dk mtX5_runScript 24 (.ifCond .lt 13) 3 27 := ⟨by decide +kernel, rfl⟩
theorem kX5_runScript_27 : Dk mtX5_runScript 27 (.lload_n 2) 1 28 := ⟨by decide +kernel, rfl⟩
theorem kX5_runScript_28 : Dk mtX5_runScript 28 (.iload_n 1) 1 29 := ⟨by decide +kernel, rfl⟩
theorem kX5_runScript_29 : Dk mtX5_runScript 29 (.invokestatic 272) 3 32 := ⟨by decide +kernel, rfl⟩
theorem kX5_runScript_32 : Dk mtX5_runScript 32 (.lconst 0) 1 33 := ⟨by decide +kernel, rfl⟩
theorem kX5_runScript_33 : Dk mtX5_runScript 33 (.lcmp) 1 34 := ⟨by decide +kernel, rfl⟩
theorem kX5_runScript_34 : Dk mtX5_runScript 34 (.ifCond .le 14) 3 37 := ⟨by decide +kernel, rfl⟩
theorem kX5_runScript_37 : Dk mtX5_runScript 37 (.new 33) 3 40 := ⟨by decide +kernel, rfl⟩
theorem kX5_runScript_40 : Dk mtX5_runScript 40 (.dup) 1 41 := ⟨by decide +kernel, rfl⟩
theorem kX5_runScript_41 : Dk mtX5_runScript 41 (.ldc_w 276) 3 44 := ⟨by decide +kernel, rfl⟩
theorem kX5_runScript_44 : Dk mtX5_runScript 44 (.invokespecial 37) 3 47 := ⟨by decide +kernel, rfl⟩
theorem kX5_runScript_47 : Dk mtX5_runScript 47 (.athrow) 1 48 := ⟨by decide +kernel, rfl⟩
theorem kX5_runScript_48 : Dk mtX5_runScript 48 (.aload_n 0) 1 49 := ⟨by decide +kernel, rfl⟩
theorem kX5_runScript_49 : Dk mtX5_runScript 49 (.getfield 23) 3 52 := ⟨by decide +kernel, rfl⟩
theorem kX5_runScript_52 : Dk mtX5_runScript 52 (.aload_n 0) 1 53 := ⟨by decide +kernel, rfl⟩
theorem kX5_runScript_53 : Dk mtX5_runScript 53 (.getfield 19) 3 56 := ⟨by decide +kernel, rfl⟩
theorem kX5_runScript_56 : Dk mtX5_runScript 56 (.invokevirtual 246) 3 59 := ⟨by decide +kernel, rfl⟩
theorem kX5_runScript_59 : Dk mtX5_runScript 59 (.iconst 0) 1 60 := ⟨by decide +kernel, rfl⟩
theorem kX5_runScript_60 : Dk mtX5_runScript 60 (.istore 4) 2 62 := ⟨by decide +kernel, rfl⟩
theorem kX5_runScript_62 : Dk mtX5_runScript 62 (.iload 4) 2 64 := ⟨by decide +kernel, rfl⟩
theorem kX5_runScript_64 : Dk mtX5_runScript 64 (.iload_n 1) 1 65 := ⟨by decide +kernel, rfl⟩
theorem kX5_runScript_65 : Dk mtX5_runScript 65 (.if_icmp .ge 34) 3 68 := ⟨by decide +kernel, rfl⟩
theorem kX5_runScript_68 : Dk mtX5_runScript 68 (.aload_n 0) 1 69 := ⟨by decide +kernel, rfl⟩
theorem kX5_runScript_69 : Dk mtX5_runScript 69 (.lload_n 2) 1 70 := ⟨by decide +kernel, rfl⟩
theorem kX5_runScript_70 : Dk mtX5_runScript 70 (.iload_n 1) 1 71 := ⟨by decide +kernel, rfl⟩
theorem kX5_runScript_71 : Dk mtX5_runScript 71 (.iconst 1) 1 72 := ⟨by decide +kernel, rfl⟩
theorem kX5_runScript_72 : Dk mtX5_runScript 72 (.isub) 1 73 := ⟨by decide +kernel, rfl⟩
theorem kX5_runScript_73 : Dk mtX5_runScript 73 (.iload 4) 2 75 := ⟨by decide +kernel, rfl⟩
theorem kX5_runScript_75 : Dk mtX5_runScript 75 (.isub) 1 76 := ⟨by decide +kernel, rfl⟩
theorem kX5_runScript_76 : Dk mtX5_runScript 76 (.invokestatic 272) 3 79 := ⟨by decide +kernel, rfl⟩
theorem kX5_runScript_79 : Dk mtX5_runScript 79 (.ldc2_w 278) 3 82 := ⟨by decide +kernel, rfl⟩
theorem kX5_runScript_82 : Dk mtX5_runScript 82 (.lrem) 1 83 := ⟨by decide +kernel, rfl⟩
theorem kX5_runScript_83 : Dk mtX5_runScript 83 (.l2i) 1 84 := ⟨by decide +kernel, rfl⟩
theorem kX5_runScript_84 : Dk mtX5_runScript 84 (.invokevirtual 280) 3 87 := ⟨by decide +kernel, rfl⟩
theorem kX5_runScript_87 : Dk mtX5_runScript 87 (.ifCond .ne 6) 3 90 := ⟨by decide +kernel, rfl⟩
theorem kX5_runScript_90 : Dk mtX5_runScript 90 (.iload 4) 2 92 := ⟨by decide +kernel, rfl⟩
theorem kX5_runScript_92 : Dk mtX5_runScript 92 (.ireturn) 1 93 := ⟨by decide +kernel, rfl⟩
theorem kX5_runScript_93 : Dk mtX5_runScript 93 (.iinc 4 1) 3 96 := ⟨by decide +kernel, rfl⟩
theorem kX5_runScript_96 : Dk mtX5_runScript 96 (.goto (-34)) 3 99 := ⟨by decide +kernel, rfl⟩
theorem kX5_runScript_99 : Dk mtX5_runScript 99 (.iconst (-1)) 1 100 := ⟨by decide +kernel, rfl⟩
theorem kX5_runScript_100 : Dk mtX5_runScript 100 (.ireturn) 1 101 := ⟨by decide +kernel, rfl⟩
theorem lmX5_272 : LkM RX5 272 mtX5_withoutGroups := Or.inl (by decide +kernel)
theorem mkX5_withoutGroups : MkS mtX5_withoutGroups 2 := ⟨List.mem_of_getElem? (i := 929) (by decide +kernel), by decide +kernel, by decide +kernel, ⟨by decide +kernel, by decide +kernel, by decide +kernel⟩⟩
theorem lmX5_280 : LkM RX5 280 mtX5_runCommand := Or.inl (by decide +kernel)
theorem mkX5_runCommand : MkV mtX5_runCommand 1 := ⟨List.mem_of_getElem? (i := 935) (by decide +kernel), by decide +kernel, by decide +kernel, by decide +kernel, ⟨by decide +kernel, by decide +kernel, by decide +kernel⟩⟩
set_option maxHeartbeats 4000000 in
set_option maxRecDepth 100000 in
theorem cf_runScript {l : Launch} {w : Wd} {sg : Sg} (hWr : Wr w) (hl0 : l.stackTraces = false) (n : Int32) (u : Int64) (old : Gs) {x : Nat} {g : Gs} (hR : Rel sg (x + 4) g) (hI : Inv g) (hT : Bt sg (x + 22)) : MX l mtX5_runScript w [vR (some (5, 0, x)), vI n, vL u] sg (rI (fun r g2 => cScript n u ∧ (∃ S, u = lN S ∧ S < 10 ^ 18 ∧ r = R_runScript g old S (tn n)) ∧ Fr (x + 22) sg g2 ∧ Bt g2 (x + 22))) (fun E g2 => ¬ cScript n u ∧ E = "java/lang/IllegalArgumentException" ∧ g2 = sg) := by
  refine MX_of hl0 [some (vR (some (5, 0, x))), some (vI n), some (vL u), none, none] rfl (Nat.le_of_ble_eq_true rfl) (by decide +kernel) ?_
  intro p_ e_ s_ m_ args_ below_ meth_ c_ hC hX hO
  refine V_iload_n hC kX5_runScript_0 rfl ?_
  refine V_iconst hC (1) kX5_runScript_1 (by decide) ?_
  refine V_icmp_lt hC 10 kX5_runScript_2 (by decide) (fun h2 => ?_) (fun h2 => ?_)
  · refine V_thW hC hX (cls := "java/lang/IllegalArgumentException") (text := "n is 1 to 3") thc1 (by decide +kernel) rfl kX5_runScript_10 kX5_runScript_13 kX5_runScript_14 kX5_runScript_17 kX5_runScript_20 ⟨(Nat.le_of_ble_eq_true rfl), (Nat.le_of_ble_eq_true rfl)⟩ ⟨(Nat.le_of_ble_eq_true rfl), (Nat.le_of_ble_eq_true rfl)⟩ ?_
    first
    | exact ⟨fun z => absurd z.1.1 (Int32.not_le.mpr h2), rfl, rfl⟩
    | exact ⟨fun z => h7 z.1.2, rfl, rfl⟩
  · refine V_iload_n hC kX5_runScript_5 rfl ?_
    refine V_iconst hC (3) kX5_runScript_6 (by decide) ?_
    refine V_icmp_le hC 21 kX5_runScript_7 (by decide) (fun h7 => ?_) (fun h7 => ?_)
    · have hp1 : inn n 1 3 := ⟨Int32.not_lt.mp h2, h7⟩
      refine V_lload_n hC kX5_runScript_21 rfl ?_
      refine V_lconst hC 0 kX5_runScript_22 (by decide) ?_
      refine V_lcmp hC kX5_runScript_23 ?_
      refine V_if_lt hC 37 kX5_runScript_24 (by decide) (fun h24 => ?_) (fun h24 => ?_)
      · refine V_thW hC hX (cls := "java/lang/IllegalArgumentException") (text := "the script is negative or too long") thc1 (by decide +kernel) rfl kX5_runScript_37 kX5_runScript_40 kX5_runScript_41 kX5_runScript_44 kX5_runScript_47 ⟨(Nat.le_of_ble_eq_true rfl), (Nat.le_of_ble_eq_true rfl)⟩ ⟨(Nat.le_of_ble_eq_true rfl), (Nat.le_of_ble_eq_true rfl)⟩ ?_
        first
        | exact ⟨fun z => z.2.1 ((lg_cmp_lt _ _).mp h24), rfl, rfl⟩
        | exact ⟨fun z => h34 ((cmp0 (by omega)).mpr ((div0 (Nat.pow_pos (by decide))).mpr (hcS.mpr z))), rfl, rfl⟩
      · have hx0 : ¬ u < 0 := fun z => h24 ((lg_cmp_lt _ _).mpr z)
        obtain ⟨N, hN, hN1, en, etn⟩ := tn60 (m := 3) rfl hp1
        obtain ⟨S, hS0, eS⟩ := pk_lOf hx0
        subst eS
        subst en
        have h18 := p18 hN
        have hcS : S < 10 ^ (6 * N) ↔ cScript (nI N) (lN S) := ⟨fun z => ⟨hp1, hx0, by rw [etn]; exact (pk_lLT hS0 (by omega)).mpr z⟩, fun z => by have := z.2.2; rw [etn] at this; exact (pk_lLT hS0 (by omega)).mp this⟩
        have hdv := Nat.div_le_self S (10 ^ (6 * N))
        refine V_lload_n hC kX5_runScript_27 rfl ?_
        refine V_iload_n hC kX5_runScript_28 rfl ?_
        refine V_cS_fL hC (cl_withoutGroups hWr (S := S) (N := N) hS0 hN) mkX5_withoutGroups lmX5_272 kX5_runScript_29 rfl rfl (Nat.le_of_ble_eq_true rfl) ⟨(Nat.le_of_ble_eq_true rfl), (Nat.le_of_ble_eq_true rfl)⟩ ⟨rfl, rfl⟩ ⟨(Nat.le_of_ble_eq_true rfl), (Nat.le_of_ble_eq_true rfl)⟩ ?_
        refine V_lconst hC 0 kX5_runScript_32 (by decide) ?_
        refine V_lcmp hC kX5_runScript_33 ?_
        refine V_if_le hC 48 kX5_runScript_34 (by decide) (fun h34 => ?_) (fun h34 => ?_)
        · have hS1 := (div0 (Nat.pow_pos (by decide))).mp ((cmp0 (by omega)).mp h34)
          have hS : S < 10 ^ 18 := by omega
          have hyes := hcS.mp hS1
          obtain ⟨Fm, hFm, hFno, hFy, hFle⟩ := rsN_all g old S N
          refine V_aload_n hC kX5_runScript_48 rfl ?_
          refine V_getR hC hWr 5 2 lfX5_23 kX5_runScript_49 (Nat.le_of_ble_eq_true rfl) (Nat.le_of_ble_eq_true rfl) rfl ?_
          refine V_aload_n hC kX5_runScript_52 rfl ?_
          refine V_getR hC hWr 5 1 lfX5_19 kX5_runScript_53 (Nat.le_of_ble_eq_true rfl) (Nat.le_of_ble_eq_true rfl) rfl ?_
          refine V_cV_rV hC (cl_copyFrom hWr (c := x + 22) (c2 := x + 4) hR hI (by omega) hT) mkX1_copyFrom lmX5_246 kX5_runScript_56 (Nat.le_of_ble_eq_true rfl) rfl rfl rfl (Nat.le_of_ble_eq_true rfl) ⟨(Nat.le_of_ble_eq_true rfl), (Nat.le_of_ble_eq_true rfl)⟩ ⟨rfl, rfl⟩ ⟨(Nat.le_of_ble_eq_true rfl), (Nat.le_of_ble_eq_true rfl)⟩ (fun g56 h56 => ?_)
          refine V_iconst hC (0) kX5_runScript_59 (by decide) ?_
          refine V_istore hC [some _, some _, some _, none, some _] kX5_runScript_60 rfl (Nat.le_of_ble_eq_true rfl) ?_
          refine V_loopR Fm (fun i a => Rel a (x + 22) (F_rsG g old S N i) ∧ Fr (x + 22) sg a) (fun i _ => [some (vR (some (5, 0, x))), some (vI (nI N)), some (vL (lN S)), none, some (vI (nI i))]) (fun _ a => a) g56 rfl rfl ⟨h56.1, h56.2⟩ (fun a ha => ?_) (fun i a hi ha ih => ?_)
          · rcases id hFy with hE | ⟨hlt, hz⟩
            · refine V_iload hC kX5_runScript_62 rfl ?_
              refine V_iload_n hC kX5_runScript_64 rfl ?_
              refine V_icmp_ge hC 99 kX5_runScript_65 (by decide) (fun h65 => ?_) (fun h65 => absurd h65 (not_not_intro (by rw [hE]; exact Int32.le_refl _)))
              refine V_iconst hC (-1) kX5_runScript_99 (by decide) ?_
              refine V_iretiX hC rfl kX5_runScript_100 ⟨(Nat.le_of_ble_eq_true rfl), (Nat.le_of_ble_eq_true rfl)⟩ ?_
              exact ⟨_, by with_reducible rfl, hyes, ⟨S, rfl, hS, by rw [etn, R_runScript, hFm, if_neg (by omega)]⟩, ha.2, ha.1.2.2.2.2⟩
            · refine V_iload hC kX5_runScript_62 rfl ?_
              refine V_iload_n hC kX5_runScript_64 rfl ?_
              refine V_icmp_ge hC 99 kX5_runScript_65 (by decide) (fun h65 => absurd h65 (nI_ge hlt (by omega))) (fun h65 => ?_)
              refine V_aload_n hC kX5_runScript_68 rfl ?_
              refine V_lload_n hC kX5_runScript_69 rfl ?_
              refine V_iload_n hC kX5_runScript_70 rfl ?_
              refine V_iconst hC (1) kX5_runScript_71 (by decide) ?_
              refine V_isub hC kX5_runScript_72 ?_
              refine V_iload hC kX5_runScript_73 rfl ?_
              refine V_isub hC kX5_runScript_75 ?_
              rw [nsub N hN Fm hlt]
              refine V_cS_fL hC (cl_withoutGroups hWr (S := S) (N := N - 1 - Fm) hS0 (by omega)) mkX5_withoutGroups lmX5_272 kX5_runScript_76 rfl rfl (Nat.le_of_ble_eq_true rfl) ⟨(Nat.le_of_ble_eq_true rfl), (Nat.le_of_ble_eq_true rfl)⟩ ⟨rfl, rfl⟩ ⟨(Nat.le_of_ble_eq_true rfl), (Nat.le_of_ble_eq_true rfl)⟩ ?_
              refine V_ldc2 hC lcX5_278 kX5_runScript_79 ?_
              refine V_lrem hC kX5_runScript_82 (by decide) ?_
              refine V_l2i hC kX5_runScript_83 ?_
              rw [cg hS]
              refine V_cV_rI hC (cl_runCommand hWr ha.1 (Inv_rsG hI old S N Fm).1 old (grp_lt S N Fm)) mkX5_runCommand lmX5_280 kX5_runScript_84 (Nat.le_of_ble_eq_true rfl) rfl rfl rfl (Nat.le_of_ble_eq_true rfl) ⟨(Nat.le_of_ble_eq_true rfl), (Nat.le_of_ble_eq_true rfl)⟩ ⟨rfl, rfl⟩ ⟨(Nat.le_of_ble_eq_true rfl), (Nat.le_of_ble_eq_true rfl)⟩ (fun x84 g84 h84 => ?_)
              refine V_if_ne hC 93 kX5_runScript_87 (by decide) (fun h87 => absurd h87 (not_not_intro (by rw [h84.1, ← fgs_0 old S N Fm]; exact hz))) (fun h87 => ?_)
              refine V_iload hC kX5_runScript_90 rfl ?_
              refine V_iretiX hC rfl kX5_runScript_92 ⟨(Nat.le_of_ble_eq_true rfl), (Nat.le_of_ble_eq_true rfl)⟩ ?_
              exact ⟨_, by with_reducible rfl, hyes, ⟨S, rfl, hS, by rw [etn, R_runScript, hFm, if_pos hlt]⟩, ha.2.tr h84.2.2, h84.2.1.2.2.2.2⟩
          · have hiN : i < N := by omega
            refine V_iload hC kX5_runScript_62 rfl ?_
            refine V_iload_n hC kX5_runScript_64 rfl ?_
            refine V_icmp_ge hC 99 kX5_runScript_65 (by decide) (fun h65 => absurd h65 (nI_ge hiN (by omega))) (fun h65 => ?_)
            refine V_aload_n hC kX5_runScript_68 rfl ?_
            refine V_lload_n hC kX5_runScript_69 rfl ?_
            refine V_iload_n hC kX5_runScript_70 rfl ?_
            refine V_iconst hC (1) kX5_runScript_71 (by decide) ?_
            refine V_isub hC kX5_runScript_72 ?_
            refine V_iload hC kX5_runScript_73 rfl ?_
            refine V_isub hC kX5_runScript_75 ?_
            rw [nsub N hN i hiN]
            refine V_cS_fL hC (cl_withoutGroups hWr (S := S) (N := N - 1 - i) hS0 (by omega)) mkX5_withoutGroups lmX5_272 kX5_runScript_76 rfl rfl (Nat.le_of_ble_eq_true rfl) ⟨(Nat.le_of_ble_eq_true rfl), (Nat.le_of_ble_eq_true rfl)⟩ ⟨rfl, rfl⟩ ⟨(Nat.le_of_ble_eq_true rfl), (Nat.le_of_ble_eq_true rfl)⟩ ?_
            refine V_ldc2 hC lcX5_278 kX5_runScript_79 ?_
            refine V_lrem hC kX5_runScript_82 (by decide) ?_
            refine V_l2i hC kX5_runScript_83 ?_
            rw [cg hS]
            refine V_cV_rI hC (cl_runCommand hWr ha.1 (Inv_rsG hI old S N i).1 old (grp_lt S N i)) mkX5_runCommand lmX5_280 kX5_runScript_84 (Nat.le_of_ble_eq_true rfl) rfl rfl rfl (Nat.le_of_ble_eq_true rfl) ⟨(Nat.le_of_ble_eq_true rfl), (Nat.le_of_ble_eq_true rfl)⟩ ⟨rfl, rfl⟩ ⟨(Nat.le_of_ble_eq_true rfl), (Nat.le_of_ble_eq_true rfl)⟩ (fun x84 g84 h84 => ?_)
            refine V_if_ne hC 93 kX5_runScript_87 (by decide) (fun h87 => ?_) (fun h87 => absurd h87 (by rw [h84.1, ← fgs_0 old S N i]; exact hFno i hi))
            refine V_iinc hC (_ + 1) [some _, some _, some _, none, some _] kX5_runScript_93 rfl rfl rfl (Nat.le_of_ble_eq_true rfl) ?_
            refine V_goto hC 62 kX5_runScript_96 (by decide) ?_
            refine V_eq (by rw [nI_succ]) rfl (ih _ ⟨?_, ha.2.tr h84.2.2⟩)
            have h9 := h84.2.1
            rw [← fgs_0 old S N i] at h9
            exact h9
        · refine V_thW hC hX (cls := "java/lang/IllegalArgumentException") (text := "the script is negative or too long") thc1 (by decide +kernel) rfl kX5_runScript_37 kX5_runScript_40 kX5_runScript_41 kX5_runScript_44 kX5_runScript_47 ⟨(Nat.le_of_ble_eq_true rfl), (Nat.le_of_ble_eq_true rfl)⟩ ⟨(Nat.le_of_ble_eq_true rfl), (Nat.le_of_ble_eq_true rfl)⟩ ?_
          first
          | exact ⟨fun z => z.2.1 ((lg_cmp_lt _ _).mp h24), rfl, rfl⟩
          | exact ⟨fun z => h34 ((cmp0 (by omega)).mpr ((div0 (Nat.pow_pos (by decide))).mpr (hcS.mpr z))), rfl, rfl⟩
    · refine V_thW hC hX (cls := "java/lang/IllegalArgumentException") (text := "n is 1 to 3") thc1 (by decide +kernel) rfl kX5_runScript_10 kX5_runScript_13 kX5_runScript_14 kX5_runScript_17 kX5_runScript_20 ⟨(Nat.le_of_ble_eq_true rfl), (Nat.le_of_ble_eq_true rfl)⟩ ⟨(Nat.le_of_ble_eq_true rfl), (Nat.le_of_ble_eq_true rfl)⟩ ?_
      first
      | exact ⟨fun z => absurd z.1.1 (Int32.not_le.mpr h2), rfl, rfl⟩
      | exact ⟨fun z => h7 z.1.2, rfl, rfl⟩
