-- HOW ct_in fI
-- HOW ct_fails fI
-- HOW ct_of fI
-- HOW ct_ofBoat fI
-- HOW ct_layBoat fV
-- HOW ct_isLight fI
-- HOW ct_isBoat fI
-- HOW ct_isPlace fI
-- HOW ct_bright fI
-- HOW ct_worth fI
-- HOW ct_serves fI
-- HOW ct_best fI
-- HOW ct_sails fV
-- HOW ct_drops fV
-- HOW ct_wished fI
-- HOW ct_hands fV
-- HOW ct_wishes fV
-- HOW ct_finds fV
-- HOW ct_goesOn fV
-- HOW ct_goesTick fV
-- HOW ct_goesBy fI
-- HOW ct_putAside fV
-- HOW ct_takeBack fV
-- HOW ct_isLamp fI
-- HOW ct_addsLight fI
-- HOW ct_actsLight fI
-- HOW ct_addsBoat fI
-- HOW ct_actsBoat fI
-- HOW ct_actsSteer fI
-- HOW ct_canTalk fI
-- HOW ct_actsTalk fI
-- HOW ct_actsLean fI
-- HOW ct_actsDim fI
-- HOW ct_mostOf fI
-- HOW ct_isSetting fI
-- HOW ct_actsSet fI
-- HOW ct_actsTicks fI
-- HOW ct_boatsThat fI
-- HOW ct_servedBy fI
-- HOW ct_begins fV
-- HOW ct_tellsAbout fI
-- HOW ct_about fM
-- HOW ct_lightOf fM
-- HOW ct_boatOf fM
-- HOW ct_brightness fM
-- HOW ct_bestAt fM
-- HOW ct_setting fM
-- HOW ct_saves fV
-- HOW ct_light fM
-- HOW ct_boat fM
-- HOW ct_steer fM
-- HOW ct_talk fM
-- HOW ct_lean fM
-- HOW ct_dim fM
-- HOW ct_set fM
-- HOW ct_ticks fM
-- HOW ct_undo fM
-- HOW ct_save fM
-- HOW ct_restore fM
-- HOW ct_bringsBy fI
-- HOW ct_ifMargin fM
-- HOW ct_held fI
-- HOW ct_room fI
-- HOW ct_dark fI
-- HOW ct_turns fV
-- HOW ct_simulate fM
-- HOW ct_border fM
-- HOW ct_handedIn fM
-- HOW ct_bestMargin fM
-- HOW ct_thrown fI
-- HOW ct_sign fI
-- HOW ct_number fI
-- HOW ct_carriesLight fI
-- HOW ct_carries fI
-- HOW ct_isCommand fI
-- HOW ct_append fM
-- HOW ct_clearText fM
-- HOW ct_readsAll fV
-- HOW ct_errorPosition fI
-- HOW ct_load rI
-- HOW ct_pair fI
-- HOW ct_laysFigures fV
-- HOW ct_succeeds fI
-- HOW ct_runScript rI
-- HOW cl_isPlace fI
-- HOW cl_isSpeed fI
-- HOW cl_isStrength fI
-- HOW cl_isTickCount fI
-- HOW cl_isSetting fI
-- HOW cl_isSlot fI
-- HOW cl_isSettingValue fI
-- HOW cl_shown fI
-- HOW cl_withoutGroups fL
-- HOW cl_lbegin fV
-- HOW cl_lcopy fV
-- HOW cl_bcopy fV
-- HOW cl_lnum fI
-- HOW cl_bnum fI
-- HOW cl_bright fI
-- HOW cl_worth fI
-- HOW cl_bitCount fI
-- HOW cl_servedCount fI
-- HOW cl_takesHandedOn fI
-- HOW cl_takesOthers fI
-- HOW cl_bbegin fV
-- HOW cl_move fV
-- HOW cl_wishFor fV
-- HOW cl_lightR fR
-- HOW cl_lightN fR
-- HOW cl_boatR fR
-- HOW cl_boatN fR
-- HOW cl_setR fI
-- HOW cl_lightAt fR
-- HOW cl_lightAtNo fR
-- HOW cl_boatAt fR
-- HOW cl_boatAtNo fR
-- HOW cl_settingOf fI
-- HOW cl_servedBoats fI
-- HOW cl_talkingBoats fI
-- HOW cl_numberOf fI
-- HOW cl_brightest fI
-- HOW cl_isDark fI
-- HOW cl_freePlaces fI
-- HOW cl_isServing fI
-- HOW cl_isServingAtLeast fI
-- HOW cl_isBoatAt fI
-- HOW cl_lightFault fI
-- HOW cl_boatFault fI
-- HOW cl_steerFault fI
-- HOW cl_dimFault fI
-- HOW cl_leanFault fI
-- HOW cl_talkFault fI
-- HOW cl_putSpeed rI
-- HOW cl_putTalk rI
-- HOW cl_putLeaning rI
-- HOW cl_putStrength rI
-- HOW cl_putSetting rI
-- HOW cl_addLight rI
-- HOW cl_addBoat rI
-- HOW cl_tryLight rI
-- HOW cl_tryBoat rI
-- HOW cl_trySteer rI
-- HOW cl_tryTalk rI
-- HOW cl_tryLean rI
-- HOW cl_tryDim rI
-- HOW cl_trySet rI
-- HOW cl_serve rV
-- HOW cl_lose rV
-- HOW cl_bestWish fI
-- HOW cl_seekKeeper rV
-- HOW cl_ask rV
-- HOW cl_setW fI
-- HOW cl_sail rV
-- HOW cl_pass rV
-- HOW cl_reset rV
-- HOW cl_copyFrom rV
-- HOW cl_stateAt fR
-- HOW cl_slotAt fR
-- HOW cl_hasStates fI
-- HOW cl_mreset rV
-- HOW cl_remember rV
-- HOW cl_takeBack rI
-- HOW cl_isKept fI
-- HOW cl_keep rV
-- HOW cl_bring rV
-- HOW cl_isFull fI
-- HOW cl_add fI
-- HOW cl_empty fI
-- HOW cl_hasMore fI
-- HOW cl_signAt fI
-- HOW cl_number fI
-- HOW cl_formOf fR
-- HOW cl_readNumber fI
-- HOW cl_formY fR
-- HOW cl_formN fR
-- HOW cl_readHead fI
-- HOW cl_readCommand rI
-- HOW cl_errorPlace rI
-- HOW cl_gained fI
-- HOW cl_tryMargin rV
-- HOW cl_until rI
-- HOW cl_dark fI
-- HOW cl_room fI
-- HOW cl_takeTurn rV
-- HOW cl_runCommand rI
-- HOW cl_obey rI
-- HOW cl_throwFault xV
-- HOW cf_about xI
-- HOW cf_lightOf xI
-- HOW cf_boatOf xI
-- HOW cf_brightness xI
-- HOW cf_bestAt xI
-- HOW cf_setting xI
-- HOW cf_light xI
-- HOW cf_boat xI
-- HOW cf_steer xI
-- HOW cf_talk xI
-- HOW cf_lean xI
-- HOW cf_dim xI
-- HOW cf_set xI
-- HOW cf_ticks xI
-- HOW cf_undo xI
-- HOW cf_save xI
-- HOW cf_restore xI
-- HOW cf_append xI
-- HOW cf_clearText fI
-- HOW cf_ifMargin xI
-- HOW cf_handedIn xI
-- HOW cf_errorPosition rI
-- HOW cf_simulate xI
-- HOW cf_border xI
-- HOW cf_bestMargin xI
/-! the class's face: what tries -/
theorem n100 {a : Int32} (h : inn a 1 100) : ∃ N, N < 101 ∧ a = nI N := by
  obtain ⟨j, hj, e⟩ := vp_in_of (inn_vp (m := 101) (M := 100) (by decide) ⟨Int32.le_trans (by decide) h.1, h.2⟩) (by decide)
  exact ⟨j, hj, e⟩
theorem n200 {a : Int32} (h : inn a 1 200) : ∃ N, N < 201 ∧ a = nI N := by
  obtain ⟨j, hj, e⟩ := vp_in_of (inn_vp (m := 201) (M := 200) (by decide) ⟨Int32.le_trans (by decide) h.1, h.2⟩) (by decide)
  exact ⟨j, hj, e⟩
theorem cSet0 {v : Int32} : cSet 0 v ↔ inn v 0 100 := by
  have e1 : b01 ((0 : Int32) = 1 ∨ (0 : Int32) = 2) = 0 := by decide
  have e2 : F_most 0 = 100 := by decide
  show inn 0 0 3 ∧ inn v (b01 ((0 : Int32) = 1 ∨ (0 : Int32) = 2)) (F_most 0) ↔ _
  rw [e1, e2]
  exact ⟨fun h => h.2, fun h => ⟨by decide, h⟩⟩
theorem j4 {j : Nat} (h : j < 4) : j = 0 ∨ j = 1 ∨ j = 2 ∨ j = 3 := by omega
theorem ga5 {j : Nat} (hj : j < 4) : inn (5 + nI j) 0 9 := by
  rcases j4 hj with rfl | rfl | rfl | rfl <;> decide
theorem tl5j (g : Gs) {j : Nat} (hj : j < 4) : F_tells g (5 + nI j) = g (7 + j) := by
  rcases j4 hj with rfl | rfl | rfl | rfl <;> rw [F_tells, if_neg (by decide), if_neg (by decide)] <;> rfl
theorem tl5 (g : Gs) : F_tells g 5 = g 7 := by rw [F_tells, if_neg (by decide), if_neg (by decide)]; rfl
theorem tl6 (g : Gs) : F_tells g 6 = g 8 := by rw [F_tells, if_neg (by decide), if_neg (by decide)]; rfl
theorem tl8 (g : Gs) : F_tells g 8 = g 10 := by rw [F_tells, if_neg (by decide), if_neg (by decide)]; rfl
theorem brj (g : Gs) (v : Int32) (N j : Nat) (hj : ¬ j = 0) : R_brings g v N j = F_ticks (upd g 0 v) N j - g j := by
  rw [R_brings, upd_v g 0 v j, if_neg hj]
/-- what handedIn answers in the class -/
def RH (g : Gs) (b w : Int32) : Int32 := if gB (F_ticks g (F_hN g b)) b 7 = gB g b 7 then -1 else if w = 0 then nI (F_hN g b) else if w = 1 then gB (F_ticks g (F_hN g b)) b 2 - 1 else gB (F_ticks g (F_hN g b)) b 0
theorem ksub (k a : Int32) : k - (a - 1) = k - a + 1 := by
  rw [Int32.sub_eq_add_neg k (a - 1), Int32.neg_sub, Int32.sub_eq_add_neg 1 a, Int32.add_comm 1 (-a), ← Int32.add_assoc, ← Int32.sub_eq_add_neg]
theorem left0 {k a : Int32} (h : k - a = k) : a = 0 := by
  have e : k - (k - a) = k - k := congrArg (fun z => k - z) h
  rw [Int32.sub_eq_add_neg k (k - a), Int32.neg_sub, Int32.sub_eq_add_neg a k, Int32.add_comm a (-k), ← Int32.add_assoc, ← Int32.sub_eq_add_neg, Int32.sub_self, Int32.zero_add] at e
  exact e
theorem Rel_t {x : Nat} {g : Gs} {sg g1 : Sg} (hR : Rel sg (x + 4) g) (hI : Inv g) (e : Fr (x + 22) sg g1) : Rel g1 (x + 4) g := hR.fr hI.cn (fun k _ _ => e k (Or.inl (by omega)))
def mtX5_ifMargin : Mt := (yX5_ifMargin, cX5_ifMargin, 4, (some .int), 7, 221, 1, 6)
theorem kX5_ifMargin_0 : Dk mtX5_ifMargin 0 (.iconst 0) 1 1 := ⟨by decide +kernel, rfl⟩
theorem kX5_ifMargin_1 : Dk mtX5_ifMargin 1 (.iload_n 1) 1 2 := ⟨by decide +kernel, rfl⟩
theorem kX5_ifMargin_2 : Dk mtX5_ifMargin 2 (.invokestatic 209) 3 5 := ⟨by decide +kernel, rfl⟩
theorem kX5_ifMargin_5 : Dk mtX5_ifMargin 5 (.ifCond .ne 13) 3 8 := ⟨by decide +kernel, rfl⟩
theorem kX5_ifMargin_8 : Dk mtX5_ifMargin 8 (.new 33) 3 11 := ⟨by decide +kernel, rfl⟩
theorem kX5_ifMargin_11 : Dk mtX5_ifMargin 11 (.dup) 1 12 := ⟨by decide +kernel, rfl⟩
theorem kX5_ifMargin_12 : Dk mtX5_ifMargin 12 (.ldc 249) 2 14 := ⟨by decide +kernel, rfl⟩
theorem kX5_ifMargin_14 : Dk mtX5_ifMargin 14 (.invokespecial 37) 3 17 := ⟨by decide +kernel, rfl⟩
theorem kX5_ifMargin_17 : Dk mtX5_ifMargin 17 (.athrow) 1 18 := ⟨by decide +kernel, rfl⟩
theorem kX5_ifMargin_18 : Dk mtX5_ifMargin 18 (.iload_n 2) 1 19 := ⟨by decide +kernel, rfl⟩
theorem kX5_ifMargin_19 : Dk mtX5_ifMargin 19 (.iconst 1) 1 20 := ⟨by decide +kernel, rfl⟩
theorem kX5_ifMargin_20 : Dk mtX5_ifMargin 20 (.if_icmp .lt 10) 3 23 := ⟨by decide +kernel, rfl⟩
theorem kX5_ifMargin_23 : Dk mtX5_ifMargin 23 (.iload_n 2) 1 24 := ⟨by decide +kernel, rfl⟩
theorem kX5_ifMargin_24 : Dk mtX5_ifMargin 24 (.sipush 200) 3 27 := ⟨by decide +kernel, rfl⟩
theorem kX5_ifMargin_27 : Dk mtX5_ifMargin 27 (.if_icmp .le 13) 3 30 := ⟨by decide +kernel, rfl⟩
theorem kX5_ifMargin_30 : Dk mtX5_ifMargin 30 (.new 33) 3 33 := ⟨by decide +kernel, rfl⟩
theorem kX5_ifMargin_33 : Dk mtX5_ifMargin 33 (.dup) 1 34 := ⟨by decide +kernel, rfl⟩
theorem kX5_ifMargin_34 : Dk mtX5_ifMargin 34 (.ldc 251) 2 36 := ⟨by decide +kernel, rfl⟩
theorem kX5_ifMargin_36 : Dk mtX5_ifMargin 36 (.invokespecial 37) 3 39 := ⟨by decide +kernel, rfl⟩
theorem kX5_ifMargin_39 : Dk mtX5_ifMargin 39 (.athrow) 1 40 := ⟨by decide +kernel, rfl⟩
theorem kX5_ifMargin_40 : Dk mtX5_ifMargin 40 (.iload_n 3) 1 41 := ⟨by decide +kernel, rfl⟩
theorem kX5_ifMargin_41 : Dk mtX5_ifMargin 41 (.ifCond .lt 8) 3 44 := ⟨by decide +kernel, rfl⟩
theorem kX5_ifMargin_44 : Dk mtX5_ifMargin 44 (.iload_n 3) 1 45 := ⟨by decide +kernel, rfl⟩
theorem kX5_ifMargin_45 : Dk mtX5_ifMargin 45 (.iconst 3) 1 46 := ⟨by decide +kernel, rfl⟩
theorem kX5_ifMargin_46 : Dk mtX5_ifMargin 46 (.if_icmp .le 13) 3 49 := ⟨by decide +kernel, rfl⟩
theorem kX5_ifMargin_49 : Dk mtX5_ifMargin 49 (.new 33) 3 52 := ⟨by decide +kernel, rfl⟩
theorem kX5_ifMargin_52 : Dk mtX5_ifMargin 52 (.dup) 1 53 := ⟨by decide +kernel, rfl⟩
theorem kX5_ifMargin_53 : Dk mtX5_ifMargin 53 (.ldc 160) 2 55 := ⟨by decide +kernel, rfl⟩
theorem kX5_ifMargin_55 : Dk mtX5_ifMargin 55 (.invokespecial 37) 3 58 := ⟨by decide +kernel, rfl⟩
theorem kX5_ifMargin_58 : Dk mtX5_ifMargin 58 (.athrow) 1 59 := ⟨by decide +kernel, rfl⟩
theorem kX5_ifMargin_59 : Dk mtX5_ifMargin 59 (.aload_n 0) 1 60 := ⟨by decide +kernel, rfl⟩
theorem kX5_ifMargin_60 : Dk mtX5_ifMargin 60 (.iload_n 1) 1 61 := ⟨by decide +kernel, rfl⟩
theorem kX5_ifMargin_61 : Dk mtX5_ifMargin 61 (.iload_n 2) 1 62 := ⟨by decide +kernel, rfl⟩
theorem kX5_ifMargin_62 : Dk mtX5_ifMargin 62 (.invokevirtual 253) 3 65 := ⟨by decide +kernel, rfl⟩
theorem kX5_ifMargin_65 : Dk mtX5_ifMargin 65 (.aload_n 0) 1 66 := ⟨by decide +kernel, rfl⟩
theorem kX5_ifMargin_66 : Dk mtX5_ifMargin 66 (.iconst 5) 1 67 := ⟨by decide +kernel, rfl⟩
theorem kX5_ifMargin_67 : Dk mtX5_ifMargin 67 (.iload_n 3) 1 68 := ⟨by decide +kernel, rfl⟩
theorem kX5_ifMargin_68 : Dk mtX5_ifMargin 68 (.iadd) 1 69 := ⟨by decide +kernel, rfl⟩
theorem kX5_ifMargin_69 : Dk mtX5_ifMargin 69 (.invokevirtual 257) 3 72 := ⟨by decide +kernel, rfl⟩
theorem kX5_ifMargin_72 : Dk mtX5_ifMargin 72 (.ireturn) 1 73 := ⟨by decide +kernel, rfl⟩
theorem lmX5_253 : LkM RX5 253 mtX5_tryMargin := Or.inl (by decide +kernel)
theorem mkX5_tryMargin : MkV mtX5_tryMargin 2 := ⟨List.mem_of_getElem? (i := 898) (by decide +kernel), by decide +kernel, by decide +kernel, by decide +kernel, ⟨by decide +kernel, by decide +kernel, by decide +kernel⟩⟩
theorem lmX5_257 : LkM RX5 257 mtX5_gained := Or.inl (by decide +kernel)
theorem mkX5_gained : MkV mtX5_gained 1 := ⟨List.mem_of_getElem? (i := 902) (by decide +kernel), by decide +kernel, by decide +kernel, by decide +kernel, ⟨by decide +kernel, by decide +kernel, by decide +kernel⟩⟩
set_option maxHeartbeats 4000000 in
set_option maxRecDepth 100000 in
theorem cf_ifMargin {l : Launch} {w : Wd} {sg : Sg} (hWr : Wr w) (hl0 : l.stackTraces = false) (v n a : Int32) {x : Nat} {g : Gs} (hR : Rel sg (x + 4) g) (hI : Inv g) (hT : Bt sg (x + 22)) : MX l mtX5_ifMargin w [vR (some (5, 0, x)), vI v, vI n, vI a] sg (rX (K_ifMargin v n a) (fun r g2 => r = R_brings g v (tn n) (7 + tn a) ∧ Fr (x + 22) sg g2 ∧ Bt g2 (x + 22))) (pY "java/lang/IllegalArgumentException" "java/lang/IllegalArgumentException" "java/lang/IllegalArgumentException" (K_ifMargin v n a) sg) := by
  refine MX_of hl0 [some (vR (some (5, 0, x))), some (vI v), some (vI n), some (vI a)] rfl (Nat.le_of_ble_eq_true rfl) (by decide +kernel) ?_
  intro p_ e_ s_ m_ args_ below_ meth_ c_ hC hX hO
  refine V_iconst hC (0) kX5_ifMargin_0 (by decide) ?_
  refine V_iload_n hC kX5_ifMargin_1 rfl ?_
  refine V_cS_fI hC (cl_isSettingValue hWr _ _) mkX5_isSettingValue lmX5_209 kX5_ifMargin_2 rfl rfl (Nat.le_of_ble_eq_true rfl) ⟨(Nat.le_of_ble_eq_true rfl), (Nat.le_of_ble_eq_true rfl)⟩ ⟨rfl, rfl⟩ ⟨(Nat.le_of_ble_eq_true rfl), (Nat.le_of_ble_eq_true rfl)⟩ ?_
  refine V_if_ne hC 18 kX5_ifMargin_5 (by decide) (fun h5 => ?_) (fun h5 => ?_)
  · refine V_iload_n hC kX5_ifMargin_18 rfl ?_
    refine V_iconst hC (1) kX5_ifMargin_19 (by decide) ?_
    refine V_icmp_lt hC 30 kX5_ifMargin_20 (by decide) (fun h20 => ?_) (fun h20 => ?_)
    · refine V_thS hC hX (cls := "java/lang/IllegalArgumentException") (text := "n is 1 to 200") thc1 (by decide +kernel) rfl kX5_ifMargin_30 kX5_ifMargin_33 kX5_ifMargin_34 kX5_ifMargin_36 kX5_ifMargin_39 ⟨(Nat.le_of_ble_eq_true rfl), (Nat.le_of_ble_eq_true rfl)⟩ ⟨(Nat.le_of_ble_eq_true rfl), (Nat.le_of_ble_eq_true rfl)⟩ ?_
      first
      | exact pY1 (if_neg (fun z => absurd z.2.1.1 (Int32.not_le.mpr h20)))
      | exact pY1 (if_neg (fun z => h27 z.2.1.2))
    · refine V_iload_n hC kX5_ifMargin_23 rfl ?_
      refine V_sipush hC (200) kX5_ifMargin_24 (by decide) ?_
      refine V_icmp_le hC 40 kX5_ifMargin_27 (by decide) (fun h27 => ?_) (fun h27 => ?_)
      · refine V_iload_n hC kX5_ifMargin_40 rfl ?_
        refine V_if_lt hC 49 kX5_ifMargin_41 (by decide) (fun h41 => ?_) (fun h41 => ?_)
        · refine V_thS hC hX (cls := "java/lang/IllegalArgumentException") (text := "what is 0 to 3") thc1 (by decide +kernel) rfl kX5_ifMargin_49 kX5_ifMargin_52 kX5_ifMargin_53 kX5_ifMargin_55 kX5_ifMargin_58 ⟨(Nat.le_of_ble_eq_true rfl), (Nat.le_of_ble_eq_true rfl)⟩ ⟨(Nat.le_of_ble_eq_true rfl), (Nat.le_of_ble_eq_true rfl)⟩ ?_
          first
          | exact pY1 (if_neg (fun z => absurd z.2.2.1 (Int32.not_le.mpr h41)))
          | exact pY1 (if_neg (fun z => h46 z.2.2.2))
        · refine V_iload_n hC kX5_ifMargin_44 rfl ?_
          refine V_iconst hC (3) kX5_ifMargin_45 (by decide) ?_
          refine V_icmp_le hC 59 kX5_ifMargin_46 (by decide) (fun h46 => ?_) (fun h46 => ?_)
          · have hv : inn v 0 100 := cSet0.mp (b01n.mp h5)
            have hn : inn n 1 200 := ⟨Int32.not_lt.mp h20, h27⟩
            have ha : inn a 0 3 := ⟨Int32.not_lt.mp h41, h46⟩
            obtain ⟨N, hN, rfl⟩ := n200 hn
            obtain ⟨j, hj, rfl⟩ := vp_in_of (inn_vp (m := 4) (by decide) ha) (by decide)
            have en : tn (nI N) = N := nI_clamp (by omega)
            have ej : tn (nI j) = j := nI_clamp (by omega)
            refine V_aload_n hC kX5_ifMargin_59 rfl ?_
            refine V_iload_n hC kX5_ifMargin_60 rfl ?_
            refine V_iload_n hC kX5_ifMargin_61 rfl ?_
            refine V_cV_rV hC (cl_tryMargin hWr hv (N := N) (by omega) hR hI hT) mkX5_tryMargin lmX5_253 kX5_ifMargin_62 (Nat.le_of_ble_eq_true rfl) rfl rfl rfl (Nat.le_of_ble_eq_true rfl) ⟨(Nat.le_of_ble_eq_true rfl), (Nat.le_of_ble_eq_true rfl)⟩ ⟨rfl, rfl⟩ ⟨(Nat.le_of_ble_eq_true rfl), (Nat.le_of_ble_eq_true rfl)⟩ (fun g62 h62 => ?_)
            refine V_aload_n hC kX5_ifMargin_65 rfl ?_
            refine V_iconst hC (5) kX5_ifMargin_66 (by decide) ?_
            refine V_iload_n hC kX5_ifMargin_67 rfl ?_
            refine V_iadd hC kX5_ifMargin_68 ?_
            refine V_cV_fI hC (cl_gained hWr _ (ga5 hj) (Rel_t hR hI h62.2) hI h62.1 (Inv_ticks (Inv_margin hI hv) N).1) mkX5_gained lmX5_257 kX5_ifMargin_69 (Nat.le_of_ble_eq_true rfl) rfl rfl rfl (Nat.le_of_ble_eq_true rfl) ⟨(Nat.le_of_ble_eq_true rfl), (Nat.le_of_ble_eq_true rfl)⟩ ⟨rfl, rfl⟩ ⟨(Nat.le_of_ble_eq_true rfl), (Nat.le_of_ble_eq_true rfl)⟩ ?_
            refine V_iretiX hC rfl kX5_ifMargin_72 ⟨(Nat.le_of_ble_eq_true rfl), (Nat.le_of_ble_eq_true rfl)⟩ ?_
            exact ⟨_, by with_reducible rfl, if_pos ⟨hv, hn, ha⟩, by rw [en, ej, tl5j _ hj, tl5j _ hj, brj _ _ _ _ (by omega)], h62.2, h62.1.2.2.2.2⟩
          · refine V_thS hC hX (cls := "java/lang/IllegalArgumentException") (text := "what is 0 to 3") thc1 (by decide +kernel) rfl kX5_ifMargin_49 kX5_ifMargin_52 kX5_ifMargin_53 kX5_ifMargin_55 kX5_ifMargin_58 ⟨(Nat.le_of_ble_eq_true rfl), (Nat.le_of_ble_eq_true rfl)⟩ ⟨(Nat.le_of_ble_eq_true rfl), (Nat.le_of_ble_eq_true rfl)⟩ ?_
            first
            | exact pY1 (if_neg (fun z => absurd z.2.2.1 (Int32.not_le.mpr h41)))
            | exact pY1 (if_neg (fun z => h46 z.2.2.2))
      · refine V_thS hC hX (cls := "java/lang/IllegalArgumentException") (text := "n is 1 to 200") thc1 (by decide +kernel) rfl kX5_ifMargin_30 kX5_ifMargin_33 kX5_ifMargin_34 kX5_ifMargin_36 kX5_ifMargin_39 ⟨(Nat.le_of_ble_eq_true rfl), (Nat.le_of_ble_eq_true rfl)⟩ ⟨(Nat.le_of_ble_eq_true rfl), (Nat.le_of_ble_eq_true rfl)⟩ ?_
        first
        | exact pY1 (if_neg (fun z => absurd z.2.1.1 (Int32.not_le.mpr h20)))
        | exact pY1 (if_neg (fun z => h27 z.2.1.2))
  · refine V_thS hC hX (cls := "java/lang/IllegalArgumentException") (text := "v is 0 to 100") thc1 (by decide +kernel) rfl kX5_ifMargin_8 kX5_ifMargin_11 kX5_ifMargin_12 kX5_ifMargin_14 kX5_ifMargin_17 ⟨(Nat.le_of_ble_eq_true rfl), (Nat.le_of_ble_eq_true rfl)⟩ ⟨(Nat.le_of_ble_eq_true rfl), (Nat.le_of_ble_eq_true rfl)⟩ ?_
    exact pY1 (if_neg (fun z => b01e.mp h5 (cSet0.mpr z.1)))
def mtX5_handedIn : Mt := (yX5_handedIn, cX5_handedIn, 6, (some .int), 7, 221, 1, 6)
theorem kX5_handedIn_0 : Dk mtX5_handedIn 0 (.aload_n 0) 1 1 := ⟨by decide +kernel, rfl⟩
theorem kX5_handedIn_1 : Dk mtX5_handedIn 1 (.getfield 19) 3 4 := ⟨by decide +kernel, rfl⟩
theorem kX5_handedIn_4 : Dk mtX5_handedIn 4 (.iload_n 1) 1 5 := ⟨by decide +kernel, rfl⟩
theorem kX5_handedIn_5 : Dk mtX5_handedIn 5 (.invokevirtual 125) 3 8 := ⟨by decide +kernel, rfl⟩
theorem kX5_handedIn_8 : Dk mtX5_handedIn 8 (.astore_n 3) 1 9 := ⟨by decide +kernel, rfl⟩
theorem kX5_handedIn_9 : Dk mtX5_handedIn 9 (.aload_n 3) 1 10 := ⟨by decide +kernel, rfl⟩
theorem kX5_handedIn_10 : Dk mtX5_handedIn 10 (.ifnonnull 13) 3 13 := ⟨by decide +kernel, rfl⟩
theorem kX5_handedIn_13 : Dk mtX5_handedIn 13 (.new 115) 3 16 := ⟨by decide +kernel, rfl⟩
theorem kX5_handedIn_16 : Dk mtX5_handedIn 16 (.dup) 1 17 := ⟨by decide +kernel, rfl⟩
theorem kX5_handedIn_17 : Dk mtX5_handedIn 17 (.ldc 129) 2 19 := ⟨by decide +kernel, rfl⟩
theorem kX5_handedIn_19 : Dk mtX5_handedIn 19 (.invokespecial 119) 3 22 := ⟨by decide +kernel, rfl⟩
theorem kX5_handedIn_22 : Dk mtX5_handedIn 22 (.athrow) 1 23 := ⟨by decide +kernel, rfl⟩
theorem kX5_handedIn_23 : Dk mtX5_handedIn 23 (.iload_n 2) 1 24 := ⟨by decide +kernel, rfl⟩
theorem kX5_handedIn_24 : Dk mtX5_handedIn 24 (.ifCond .lt 8) 3 27 := ⟨by decide +kernel, rfl⟩
theorem kX5_handedIn_27 : Dk mtX5_handedIn 27 (.iload_n 2) 1 28 := ⟨by decide +kernel, rfl⟩
theorem kX5_handedIn_28 : Dk mtX5_handedIn 28 (.iconst 2) 1 29 := ⟨by decide +kernel, rfl⟩
theorem kX5_handedIn_29 : Dk mtX5_handedIn 29 (.if_icmp .le 13) 3 32 := ⟨by decide +kernel, rfl⟩
theorem kX5_handedIn_32 : Dk mtX5_handedIn 32 (.new 33) 3 35 := ⟨by decide +kernel, rfl⟩
theorem kX5_handedIn_35 : Dk mtX5_handedIn 35 (.dup) 1 36 := ⟨by decide +kernel, rfl⟩
theorem kX5_handedIn_36 : Dk mtX5_handedIn 36 (.ldc 234) 2 38 := ⟨by decide +kernel, rfl⟩
theorem kX5_handedIn_38 : Dk mtX5_handedIn 38 (.invokespecial 37) 3 41 := ⟨by decide +kernel, rfl⟩
theorem kX5_handedIn_41 : Dk mtX5_handedIn 41 (.athrow) 1 42 := ⟨by decide +kernel, rfl⟩
theorem kX5_handedIn_42 : Dk mtX5_handedIn 42 (.aload_n 0) 1 43 := ⟨by decide +kernel, rfl⟩
theorem kX5_handedIn_43 : Dk mtX5_handedIn 43 (.iload_n 1) 1 44 := ⟨by decide +kernel, rfl⟩
theorem kX5_handedIn_44 : Dk mtX5_handedIn 44 (.aload_n 3) 1 45 := ⟨by decide +kernel, rfl⟩
theorem kX5_handedIn_45 : Dk mtX5_handedIn 45 (.getfield 236) 3 48 := ⟨by decide +kernel, rfl⟩
theorem kX5_handedIn_48 : Dk mtX5_handedIn 48 (.invokevirtual 237) 3 51 := ⟨by decide +kernel, rfl⟩
theorem kX5_handedIn_51 : Dk mtX5_handedIn 51 (.istore 4) 2 53 := ⟨by decide +kernel, rfl⟩
theorem kX5_handedIn_53 : Dk mtX5_handedIn 53 (.aload_n 0) 1 54 := ⟨by decide +kernel, rfl⟩
theorem kX5_handedIn_54 : Dk mtX5_handedIn 54 (.getfield 23) 3 57 := ⟨by decide +kernel, rfl⟩
theorem kX5_handedIn_57 : Dk mtX5_handedIn 57 (.iload_n 1) 1 58 := ⟨by decide +kernel, rfl⟩
theorem kX5_handedIn_58 : Dk mtX5_handedIn 58 (.invokevirtual 125) 3 61 := ⟨by decide +kernel, rfl⟩
theorem kX5_handedIn_61 : Dk mtX5_handedIn 61 (.astore 5) 2 63 := ⟨by decide +kernel, rfl⟩
theorem kX5_handedIn_63 : Dk mtX5_handedIn 63 (.iload 4) 2 65 := ⟨by decide +kernel, rfl⟩
theorem kX5_handedIn_65 : Dk mtX5_handedIn 65 (.iconst (-1)) 1 66 := ⟨by decide +kernel, rfl⟩
theorem kX5_handedIn_66 : Dk mtX5_handedIn 66 (.if_icmp .eq 8) 3 69 := ⟨by decide +kernel, rfl⟩
theorem kX5_handedIn_69 : Dk mtX5_handedIn 69 (.aload 5) 2 71 := ⟨by decide +kernel, rfl⟩
theorem kX5_handedIn_71 : Dk mtX5_handedIn 71 (.ifnonnull 5) 3 74 := ⟨by decide +kernel, rfl⟩
theorem kX5_handedIn_74 : Dk mtX5_handedIn 74 (.iconst (-1)) 1 75 := ⟨by decide +kernel, rfl⟩
theorem kX5_handedIn_75 : Dk mtX5_handedIn 75 (.ireturn) 1 76 := ⟨by decide +kernel, rfl⟩
theorem kX5_handedIn_76 : Dk mtX5_handedIn 76 (.iload_n 2) 1 77 := ⟨by decide +kernel, rfl⟩
theorem kX5_handedIn_77 : Dk mtX5_handedIn 77 (.ifCond .ne 6) 3 80 := ⟨by decide +kernel, rfl⟩
theorem kX5_handedIn_80 : Dk mtX5_handedIn 80 (.iload 4) 2 82 := ⟨by decide +kernel, rfl⟩
theorem kX5_handedIn_82 : Dk mtX5_handedIn 82 (.ireturn) 1 83 := ⟨by decide +kernel, rfl⟩
theorem kX5_handedIn_83 : Dk mtX5_handedIn 83 (.iload_n 2) 1 84 := ⟨by decide +kernel, rfl⟩
theorem kX5_handedIn_84 : Dk mtX5_handedIn 84 (.iconst 1) 1 85 := ⟨by decide +kernel, rfl⟩
theorem kX5_handedIn_85 : Dk mtX5_handedIn 85 (.if_icmp .ne 11) 3 88 := ⟨by decide +kernel, rfl⟩
theorem kX5_handedIn_88 : Dk mtX5_handedIn 88 (.aload 5) 2 90 := ⟨by decide +kernel, rfl⟩
theorem kX5_handedIn_90 : Dk mtX5_handedIn 90 (.getfield 240) 3 93 := ⟨by decide +kernel, rfl⟩
theorem kX5_handedIn_93 : Dk mtX5_handedIn 93 (.goto 8) 3 96 := ⟨by decide +kernel, rfl⟩
theorem kX5_handedIn_96 : Dk mtX5_handedIn 96 (.aload 5) 2 98 := ⟨by decide +kernel, rfl⟩
theorem kX5_handedIn_98 : Dk mtX5_handedIn 98 (.getfield 243) 3 101 := ⟨by decide +kernel, rfl⟩
theorem kX5_handedIn_101 : Dk mtX5_handedIn 101 (.ireturn) 1 102 := ⟨by decide +kernel, rfl⟩
theorem lmX5_237 : LkM RX5 237 mtX5_ticksUntilHanded := Or.inl (by decide +kernel)
theorem mkX5_ticksUntilHanded : MkV mtX5_ticksUntilHanded 2 := ⟨List.mem_of_getElem? (i := 884) (by decide +kernel), by decide +kernel, by decide +kernel, by decide +kernel, ⟨by decide +kernel, by decide +kernel, by decide +kernel⟩⟩
theorem lfX5_243 : LkF RX5 243 0 1 := Or.inr (by decide +kernel)
theorem lfX5_240 : LkF RX5 240 0 3 := Or.inr (by decide +kernel)
set_option maxHeartbeats 4000000 in
set_option maxRecDepth 100000 in
theorem cf_handedIn {l : Launch} {w : Wd} {sg : Sg} (hWr : Wr w) (hl0 : l.stackTraces = false) (b a : Int32) {x : Nat} {g : Gs} (hR : Rel sg (x + 4) g) (hI : Inv g) (hT : Bt sg (x + 22)) : MX l mtX5_handedIn w [vR (some (5, 0, x)), vI b, vI a] sg (rX (K_handedIn g b a) (fun r g2 => r = RH g b a ∧ Fr (x + 22) sg g2 ∧ Bt g2 (x + 22))) (pY "java/lang/IndexOutOfBoundsException" "java/lang/IllegalArgumentException" "java/lang/IllegalArgumentException" (K_handedIn g b a) sg) := by
  refine MX_of hl0 [some (vR (some (5, 0, x))), some (vI b), some (vI a), none, none, none] rfl (Nat.le_of_ble_eq_true rfl) (by decide +kernel) ?_
  intro p_ e_ s_ m_ args_ below_ meth_ c_ hC hX hO
  rcases rg5 hI b with ⟨hin, n, hn, rfl⟩ | ⟨hin, hb⟩
  · refine V_aload_n hC kX5_handedIn_0 rfl ?_
    refine V_getR hC hWr 5 1 lfX5_19 kX5_handedIn_1 (Nat.le_of_ble_eq_true rfl) (Nat.le_of_ble_eq_true rfl) rfl ?_
    refine V_iload_n hC kX5_handedIn_4 rfl ?_
    refine V_cV_fR hC (cl_boatR hWr hR hI hn) mkX1_boatAt lmX5_125 kX5_handedIn_5 (Nat.le_of_ble_eq_true rfl) rfl rfl rfl (Nat.le_of_ble_eq_true rfl) ⟨(Nat.le_of_ble_eq_true rfl), (Nat.le_of_ble_eq_true rfl)⟩ ⟨rfl, rfl⟩ ⟨(Nat.le_of_ble_eq_true rfl), (Nat.le_of_ble_eq_true rfl)⟩ ?_
    refine V_astore_n hC [some _, some _, some _, some _, none, none] kX5_handedIn_8 rfl (Nat.le_of_ble_eq_true rfl) ?_
    refine V_aload_n hC kX5_handedIn_9 rfl ?_
    refine V_ifnonnull hC 23 kX5_handedIn_10 (by decide) (fun _ _ => ?_) (fun hq => by cases hq)
    refine V_iload_n hC kX5_handedIn_23 rfl ?_
    refine V_if_lt hC 32 kX5_handedIn_24 (by decide) (fun h24 => ?_) (fun h24 => ?_)
    · refine V_thS hC hX (cls := "java/lang/IllegalArgumentException") (text := "what is 0 to 2") thc1 (by decide +kernel) rfl kX5_handedIn_32 kX5_handedIn_35 kX5_handedIn_36 kX5_handedIn_38 kX5_handedIn_41 ⟨(Nat.le_of_ble_eq_true rfl), (Nat.le_of_ble_eq_true rfl)⟩ ⟨(Nat.le_of_ble_eq_true rfl), (Nat.le_of_ble_eq_true rfl)⟩ ?_
      first
      | exact pY2 ((if_pos hin).trans (if_neg (fun z => absurd z.1 (Int32.not_le.mpr h24))))
      | exact pY2 ((if_pos hin).trans (if_neg (fun z => h29 z.2)))
    · refine V_iload_n hC kX5_handedIn_27 rfl ?_
      refine V_iconst hC (2) kX5_handedIn_28 (by decide) ?_
      refine V_icmp_le hC 42 kX5_handedIn_29 (by decide) (fun h29 => ?_) (fun h29 => ?_)
      · have ha : inn a 0 2 := ⟨Int32.not_lt.mp h24, h29⟩
        refine V_aload_n hC kX5_handedIn_42 rfl ?_
        refine V_iload_n hC kX5_handedIn_43 rfl ?_
        refine V_aload_n hC kX5_handedIn_44 rfl ?_
        refine V_getI hC 0 9 lfX5_236 kX5_handedIn_45 (Nat.le_of_ble_eq_true rfl) (Nat.le_of_ble_eq_true rfl) rfl ?_
        refine V_cV_rI hC (cl_until hWr hR hI hT hn (hR.b9 hI hn)) mkX5_ticksUntilHanded lmX5_237 kX5_handedIn_48 (Nat.le_of_ble_eq_true rfl) rfl rfl rfl (Nat.le_of_ble_eq_true rfl) ⟨(Nat.le_of_ble_eq_true rfl), (Nat.le_of_ble_eq_true rfl)⟩ ⟨rfl, rfl⟩ ⟨(Nat.le_of_ble_eq_true rfl), (Nat.le_of_ble_eq_true rfl)⟩ (fun x48 g48 h48 => ?_)
        refine V_istore hC [some _, some _, some _, some _, some _, none] kX5_handedIn_51 rfl (Nat.le_of_ble_eq_true rfl) ?_
        refine V_aload_n hC kX5_handedIn_53 rfl ?_
        refine V_getR hC hWr 5 2 lfX5_23 kX5_handedIn_54 (Nat.le_of_ble_eq_true rfl) (Nat.le_of_ble_eq_true rfl) rfl ?_
        refine V_iload_n hC kX5_handedIn_57 rfl ?_
        have hRt := h48.2.1
        have hIt := (Inv_ticks hI (F_hN g (nI n))).1
        have hnt : n < tn (F_ticks g (F_hN g (nI n)) 5) := by rw [(Inv_ticks hI (F_hN g (nI n))).2 5 lo5]; exact hn
        have hPT := And.intro h48.2.2 hRt.2.2.2.2
        refine V_cV_fR hC (cl_boatR hWr hRt hIt hnt) mkX1_boatAt lmX5_125 kX5_handedIn_58 (Nat.le_of_ble_eq_true rfl) rfl rfl rfl (Nat.le_of_ble_eq_true rfl) ⟨(Nat.le_of_ble_eq_true rfl), (Nat.le_of_ble_eq_true rfl)⟩ ⟨rfl, rfl⟩ ⟨(Nat.le_of_ble_eq_true rfl), (Nat.le_of_ble_eq_true rfl)⟩ ?_
        refine V_astore hC [some _, some _, some _, some _, some _, some _] kX5_handedIn_61 rfl (Nat.le_of_ble_eq_true rfl) ?_
        refine V_iload hC kX5_handedIn_63 rfl ?_
        refine V_iconst hC (-1) kX5_handedIn_65 (by decide) ?_
        refine V_icmp_eq hC 74 kX5_handedIn_66 (by decide) (fun h66 => ?_) (fun h66 => ?_)
        · have hz := Classical.byContradiction (fun hne => nI_m1 (Nat.lt_of_le_of_lt (fa_first_le _ _) (by decide)) ((h48.1.trans (if_neg hne)).symm.trans h66))
          refine V_iconst hC (-1) kX5_handedIn_74 (by decide) ?_
          refine V_iretiX hC rfl kX5_handedIn_75 ⟨(Nat.le_of_ble_eq_true rfl), (Nat.le_of_ble_eq_true rfl)⟩ ?_
          exact ⟨_, by with_reducible rfl, (if_pos hin).trans (if_pos ha), (if_pos hz).symm, hPT⟩
        · have hne : ¬ gB (F_ticks g (F_hN g (nI n))) (nI n) 7 = gB g (nI n) 7 := fun z => h66 (h48.1.trans (if_pos z))
          have hx := h48.1.trans (if_neg hne)
          refine V_aload hC kX5_handedIn_69 rfl ?_
          refine V_ifnonnull hC 76 kX5_handedIn_71 (by decide) (fun _ _ => ?_) (fun hq => by cases hq)
          refine V_iload_n hC kX5_handedIn_76 rfl ?_
          refine V_if_ne hC 83 kX5_handedIn_77 (by decide) (fun h77 => ?_) (fun h77 => ?_)
          · refine V_iload_n hC kX5_handedIn_83 rfl ?_
            refine V_iconst hC (1) kX5_handedIn_84 (by decide) ?_
            refine V_icmp_ne hC 96 kX5_handedIn_85 (by decide) (fun h85 => ?_) (fun h85 => ?_)
            · refine V_aload hC kX5_handedIn_96 rfl ?_
              refine V_getI hC 0 1 lfX5_243 kX5_handedIn_98 (Nat.le_of_ble_eq_true rfl) (Nat.le_of_ble_eq_true rfl) rfl ?_
              refine V_iretiX hC rfl kX5_handedIn_101 ⟨(Nat.le_of_ble_eq_true rfl), (Nat.le_of_ble_eq_true rfl)⟩ ?_
              first
              | exact ⟨_, by with_reducible rfl, (if_pos hin).trans (if_pos ha), by rw [RH, if_neg hne, if_neg h77, if_pos (Classical.not_not.mp h85)]; exact hRt.b3 hIt hnt, hPT⟩
              | exact ⟨_, by with_reducible rfl, (if_pos hin).trans (if_pos ha), by rw [RH, if_neg hne, if_neg h77, if_pos h85]; exact hRt.b3 hIt hnt, hPT⟩
              | exact ⟨_, by with_reducible rfl, (if_pos hin).trans (if_pos ha), by rw [RH, if_neg hne, if_neg h77, if_neg h85]; exact hRt.b1 hIt hnt, hPT⟩
            · refine V_aload hC kX5_handedIn_88 rfl ?_
              refine V_getI hC 0 3 lfX5_240 kX5_handedIn_90 (Nat.le_of_ble_eq_true rfl) (Nat.le_of_ble_eq_true rfl) rfl ?_
              refine V_goto hC 101 kX5_handedIn_93 (by decide) ?_
              refine V_iretiX hC rfl kX5_handedIn_101 ⟨(Nat.le_of_ble_eq_true rfl), (Nat.le_of_ble_eq_true rfl)⟩ ?_
              first
              | exact ⟨_, by with_reducible rfl, (if_pos hin).trans (if_pos ha), by rw [RH, if_neg hne, if_neg h77, if_pos (Classical.not_not.mp h85)]; exact hRt.b3 hIt hnt, hPT⟩
              | exact ⟨_, by with_reducible rfl, (if_pos hin).trans (if_pos ha), by rw [RH, if_neg hne, if_neg h77, if_pos h85]; exact hRt.b3 hIt hnt, hPT⟩
              | exact ⟨_, by with_reducible rfl, (if_pos hin).trans (if_pos ha), by rw [RH, if_neg hne, if_neg h77, if_neg h85]; exact hRt.b1 hIt hnt, hPT⟩
          · refine V_iload hC kX5_handedIn_80 rfl ?_
            refine V_iretiX hC rfl kX5_handedIn_82 ⟨(Nat.le_of_ble_eq_true rfl), (Nat.le_of_ble_eq_true rfl)⟩ ?_
            exact ⟨_, by with_reducible rfl, (if_pos hin).trans (if_pos ha), by rw [RH, if_neg hne, if_pos h77]; exact hx, hPT⟩
      · refine V_thS hC hX (cls := "java/lang/IllegalArgumentException") (text := "what is 0 to 2") thc1 (by decide +kernel) rfl kX5_handedIn_32 kX5_handedIn_35 kX5_handedIn_36 kX5_handedIn_38 kX5_handedIn_41 ⟨(Nat.le_of_ble_eq_true rfl), (Nat.le_of_ble_eq_true rfl)⟩ ⟨(Nat.le_of_ble_eq_true rfl), (Nat.le_of_ble_eq_true rfl)⟩ ?_
        first
        | exact pY2 ((if_pos hin).trans (if_neg (fun z => absurd z.1 (Int32.not_le.mpr h24))))
        | exact pY2 ((if_pos hin).trans (if_neg (fun z => h29 z.2)))
  · refine V_aload_n hC kX5_handedIn_0 rfl ?_
    refine V_getR hC hWr 5 1 lfX5_19 kX5_handedIn_1 (Nat.le_of_ble_eq_true rfl) (Nat.le_of_ble_eq_true rfl) rfl ?_
    refine V_iload_n hC kX5_handedIn_4 rfl ?_
    refine V_cV_fR hC (cl_boatN hWr hR hb) mkX1_boatAt lmX5_125 kX5_handedIn_5 (Nat.le_of_ble_eq_true rfl) rfl rfl rfl (Nat.le_of_ble_eq_true rfl) ⟨(Nat.le_of_ble_eq_true rfl), (Nat.le_of_ble_eq_true rfl)⟩ ⟨rfl, rfl⟩ ⟨(Nat.le_of_ble_eq_true rfl), (Nat.le_of_ble_eq_true rfl)⟩ ?_
    refine V_astore_n hC [some _, some _, some _, some _, none, none] kX5_handedIn_8 rfl (Nat.le_of_ble_eq_true rfl) ?_
    refine V_aload_n hC kX5_handedIn_9 rfl ?_
    refine V_ifnonnull hC 23 kX5_handedIn_10 (by decide) (fun _ hq => by cases hq) (fun _ => ?_)
    refine V_thS hC hX (cls := "java/lang/IndexOutOfBoundsException") (text := "no such boat") thc3 (by decide +kernel) rfl kX5_handedIn_13 kX5_handedIn_16 kX5_handedIn_17 kX5_handedIn_19 kX5_handedIn_22 ⟨(Nat.le_of_ble_eq_true rfl), (Nat.le_of_ble_eq_true rfl)⟩ ⟨(Nat.le_of_ble_eq_true rfl), (Nat.le_of_ble_eq_true rfl)⟩ ?_
    exact pY1 (if_neg hin)
def mtX5_errorPosition : Mt := (yX5_errorPosition, cX5_errorPosition, 1, (some .int), 4, 93, 0, 0)
theorem kX5_errorPosition_0 : Dk mtX5_errorPosition 0 (.aload_n 0) 1 1 := ⟨by decide +kernel, rfl⟩
theorem kX5_errorPosition_1 : Dk mtX5_errorPosition 1 (.getfield 10) 3 4 := ⟨by decide +kernel, rfl⟩
theorem kX5_errorPosition_4 : Dk mtX5_errorPosition 4 (.invokevirtual 57) 3 7 := ⟨by decide +kernel, rfl⟩
theorem kX5_errorPosition_7 : Dk mtX5_errorPosition 7 (.ireturn) 1 8 := ⟨by decide +kernel, rfl⟩
theorem lmX5_57 : LkM RX5 57 mtX4_errorPlace := Or.inl (by decide +kernel)
theorem mkX4_errorPlace : MkV mtX4_errorPlace 0 := ⟨List.mem_of_getElem? (i := 311) (by decide +kernel), by decide +kernel, by decide +kernel, by decide +kernel, ⟨by decide +kernel, by decide +kernel, by decide +kernel⟩⟩
set_option maxHeartbeats 4000000 in
set_option maxRecDepth 100000 in
theorem cf_errorPosition {l : Launch} {w : Wd} {sg : Sg} (hWr : Wr w) {x n : Nat} {tx : Gs} (hT : TR sg (x + 1) tx n) {c g : Gs} (h8 : c 8 = nI n) (hI : Inv g) : M l mtX5_errorPosition w [vR (some (5, 0, x))] sg (rI (fun r g2 => r = F_err (F_reads tx c g 0).1 ∧ (∀ k, k ≠ x + 1 → k ≠ x + 1 + 2 → g2 k = sg k) ∧ g2 (x + 1) 2 = sg (x + 1) 2)) := by
  refine M_of [some (vR (some (5, 0, x)))] rfl (Nat.le_of_ble_eq_true rfl) (by decide +kernel) ?_
  intro p_ e_ s_ m_ args_ below_ meth_ c_ hC hO
  refine V_aload_n hC kX5_errorPosition_0 rfl ?_
  refine V_getR hC hWr 5 0 lfX5_10 kX5_errorPosition_1 (Nat.le_of_ble_eq_true rfl) (Nat.le_of_ble_eq_true rfl) rfl ?_
  refine V_cV_rI hC (cl_errorPlace hWr hT h8 hI) mkX4_errorPlace lmX5_57 kX5_errorPosition_4 (Nat.le_of_ble_eq_true rfl) rfl rfl rfl (Nat.le_of_ble_eq_true rfl) ⟨(Nat.le_of_ble_eq_true rfl), (Nat.le_of_ble_eq_true rfl)⟩ ⟨rfl, rfl⟩ ⟨(Nat.le_of_ble_eq_true rfl), (Nat.le_of_ble_eq_true rfl)⟩ (fun x4 g4 h4 => ?_)
  refine V_ireti hC rfl kX5_errorPosition_7 ?_
  exact ⟨_, by with_reducible rfl, h4⟩
def mtX5_simulate : Mt := (yX5_simulate, cX5_simulate, 7, (some .int), 7, 221, 1, 6)
theorem kX5_simulate_0 : Dk mtX5_simulate 0 (.iload_n 3) 1 1 := ⟨by decide +kernel, rfl⟩
theorem kX5_simulate_1 : Dk mtX5_simulate 1 (.iconst 1) 1 2 := ⟨by decide +kernel, rfl⟩
theorem kX5_simulate_2 : Dk mtX5_simulate 2 (.if_icmp .lt 9) 3 5 := ⟨by decide +kernel, rfl⟩
theorem kX5_simulate_5 : Dk mtX5_simulate 5 (.iload_n 3) 1 6 := ⟨by decide +kernel, rfl⟩
theorem kX5_simulate_6 : Dk mtX5_simulate 6 (.bipush 60) 2 8 := ⟨by decide +kernel, rfl⟩
theorem kX5_simulate_8 : Dk mtX5_simulate 8 (.if_icmp .le 14) 3 11 := ⟨by decide +kernel, rfl⟩
theorem kX5_simulate_11 : Dk mtX5_simulate 11 (.new 33) 3 14 := ⟨by decide +kernel, rfl⟩
theorem kX5_simulate_14 : Dk mtX5_simulate 14 (.dup) 1 15 := ⟨by decide +kernel, rfl⟩
theorem kX5_simulate_15 : Dk mtX5_simulate 15 (.ldc_w 296) 3 18 := ⟨by decide +kernel, rfl⟩
theorem kX5_simulate_18 : Dk mtX5_simulate 18 (.invokespecial 37) 3 21 := ⟨by decide +kernel, rfl⟩
theorem kX5_simulate_21 : Dk mtX5_simulate 21 (.athrow) 1 22 := ⟨by decide +kernel, rfl⟩
theorem kX5_simulate_22 : Dk mtX5_simulate 22 (.aload_n 0) 1 23 := ⟨by decide +kernel, rfl⟩
theorem kX5_simulate_23 : Dk mtX5_simulate 23 (.getfield 23) 3 26 := ⟨by decide +kernel, rfl⟩
theorem kX5_simulate_26 : Dk mtX5_simulate 26 (.aload_n 0) 1 27 := ⟨by decide +kernel, rfl⟩
theorem kX5_simulate_27 : Dk mtX5_simulate 27 (.getfield 19) 3 30 := ⟨by decide +kernel, rfl⟩
theorem kX5_simulate_30 : Dk mtX5_simulate 30 (.invokevirtual 246) 3 33 := ⟨by decide +kernel, rfl⟩
theorem kX5_simulate_33 : Dk mtX5_simulate 33 (.lload_n 1) 1 34 := ⟨by decide +kernel, rfl⟩
theorem kX5_simulate_34 : Dk mtX5_simulate 34 (.lstore 4) 2 36 := ⟨by decide +kernel, rfl⟩
theorem kX5_simulate_36 : Dk mtX5_simulate 36 (.iconst 0) 1 37 := ⟨by decide +kernel, rfl⟩
theorem kX5_simulate_37 : Dk mtX5_simulate 37 (.istore 6) 2 39 := ⟨by decide +kernel, rfl⟩
theorem kX5_simulate_39 : Dk mtX5_simulate 39 (.iload 6) 2 41 := ⟨by decide +kernel, rfl⟩
theorem kX5_simulate_41 : Dk mtX5_simulate 41 (.iload_n 3) 1 42 := ⟨by decide +kernel, rfl⟩
theorem kX5_simulate_42 : Dk mtX5_simulate 42 (.if_icmp .ge 31) 3 45 := ⟨by decide +kernel, rfl⟩
theorem kX5_simulate_45 : Dk mtX5_simulate 45 (.lload 4) 2 47 := ⟨by decide +kernel, rfl⟩
theorem kX5_simulate_47 : Dk mtX5_simulate 47 (.ldc2_w 298) 3 50 := ⟨by decide +kernel, rfl⟩
theorem kX5_simulate_50 : Dk mtX5_simulate 50 (.lmul) 1 51 := ⟨by decide +kernel, rfl⟩
theorem kX5_simulate_51 : Dk mtX5_simulate 51 (.ldc2_w 300) 3 54 := ⟨by decide +kernel, rfl⟩
theorem kX5_simulate_54 : Dk mtX5_simulate 54 (.ladd) 1 55 := ⟨by decide +kernel, rfl⟩
theorem kX5_simulate_55 : Dk mtX5_simulate 55 (.lstore 4) 2 57 := ⟨by decide +kernel, rfl⟩
theorem kX5_simulate_57 : Dk mtX5_simulate 57 (.aload_n 0) 1 58 := ⟨by decide +kernel, rfl⟩
theorem kX5_simulate_58 : Dk mtX5_simulate 58 (.lload 4) 2 60 := ⟨by decide +kernel, rfl⟩
theorem kX5_simulate_60 : Dk mtX5_simulate 60 (.bipush 33) 2 62 := ⟨by decide +kernel, rfl⟩
theorem kX5_simulate_62 : Dk mtX5_simulate 62 (.lushr) 1 63 := ⟨by decide +kernel, rfl⟩
theorem kX5_simulate_63 : Dk mtX5_simulate 63 (.l2i) 1 64 := ⟨by decide +kernel, rfl⟩
theorem kX5_simulate_64 : Dk mtX5_simulate 64 (.invokevirtual 302) 3 67 := ⟨by decide +kernel, rfl⟩
theorem kX5_simulate_67 : Dk mtX5_simulate 67 (.iinc 6 1) 3 70 := ⟨by decide +kernel, rfl⟩
theorem kX5_simulate_70 : Dk mtX5_simulate 70 (.goto (-31)) 3 73 := ⟨by decide +kernel, rfl⟩
theorem kX5_simulate_73 : Dk mtX5_simulate 73 (.sipush 10000) 3 76 := ⟨by decide +kernel, rfl⟩
theorem kX5_simulate_76 : Dk mtX5_simulate 76 (.aload_n 0) 1 77 := ⟨by decide +kernel, rfl⟩
theorem kX5_simulate_77 : Dk mtX5_simulate 77 (.iconst 5) 1 78 := ⟨by decide +kernel, rfl⟩
theorem kX5_simulate_78 : Dk mtX5_simulate 78 (.invokevirtual 257) 3 81 := ⟨by decide +kernel, rfl⟩
theorem kX5_simulate_81 : Dk mtX5_simulate 81 (.imul) 1 82 := ⟨by decide +kernel, rfl⟩
theorem kX5_simulate_82 : Dk mtX5_simulate 82 (.bipush 100) 2 84 := ⟨by decide +kernel, rfl⟩
theorem kX5_simulate_84 : Dk mtX5_simulate 84 (.aload_n 0) 1 85 := ⟨by decide +kernel, rfl⟩
theorem kX5_simulate_85 : Dk mtX5_simulate 85 (.bipush 6) 2 87 := ⟨by decide +kernel, rfl⟩
theorem kX5_simulate_87 : Dk mtX5_simulate 87 (.invokevirtual 257) 3 90 := ⟨by decide +kernel, rfl⟩
theorem kX5_simulate_90 : Dk mtX5_simulate 90 (.invokestatic 305) 3 93 := ⟨by decide +kernel, rfl⟩
theorem kX5_simulate_93 : Dk mtX5_simulate 93 (.imul) 1 94 := ⟨by decide +kernel, rfl⟩
theorem kX5_simulate_94 : Dk mtX5_simulate 94 (.iadd) 1 95 := ⟨by decide +kernel, rfl⟩
theorem kX5_simulate_95 : Dk mtX5_simulate 95 (.aload_n 0) 1 96 := ⟨by decide +kernel, rfl⟩
theorem kX5_simulate_96 : Dk mtX5_simulate 96 (.bipush 8) 2 98 := ⟨by decide +kernel, rfl⟩
theorem kX5_simulate_98 : Dk mtX5_simulate 98 (.invokevirtual 257) 3 101 := ⟨by decide +kernel, rfl⟩
theorem kX5_simulate_101 : Dk mtX5_simulate 101 (.invokestatic 305) 3 104 := ⟨by decide +kernel, rfl⟩
theorem kX5_simulate_104 : Dk mtX5_simulate 104 (.iadd) 1 105 := ⟨by decide +kernel, rfl⟩
theorem kX5_simulate_105 : Dk mtX5_simulate 105 (.ireturn) 1 106 := ⟨by decide +kernel, rfl⟩
theorem lmX5_305 : LkM RX5 305 mtX5_shown := Or.inl (by decide +kernel)
theorem mkX5_shown : MkS mtX5_shown 1 := ⟨List.mem_of_getElem? (i := 977) (by decide +kernel), by decide +kernel, by decide +kernel, ⟨by decide +kernel, by decide +kernel, by decide +kernel⟩⟩
theorem lcX5_298 : Cond.constantLong RX5 298 (6364136223846793005) ∈ lw_tbl := by decide +kernel
theorem lcX5_300 : Cond.constantLong RX5 300 (1442695040888963407) ∈ lw_tbl := by decide +kernel
theorem lmX5_302 : LkM RX5 302 mtX5_takeTurn := Or.inl (by decide +kernel)
theorem mkX5_takeTurn : MkV mtX5_takeTurn 1 := ⟨List.mem_of_getElem? (i := 968) (by decide +kernel), by decide +kernel, by decide +kernel, by decide +kernel, ⟨by decide +kernel, by decide +kernel, by decide +kernel⟩⟩
set_option maxHeartbeats 4000000 in
set_option maxRecDepth 100000 in
theorem cf_simulate {l : Launch} {w : Wd} {sg : Sg} (hWr : Wr w) (hl0 : l.stackTraces = false) (u : Int64) (a : Int32) {x : Nat} {g : Gs} (hR : Rel sg (x + 4) g) (hI : Inv g) (hT : Bt sg (x + 22)) : MX l mtX5_simulate w [vR (some (5, 0, x)), vL u, vI a] sg (rX (K_simulate a) (fun r g2 => r = R_simulate g u (tn a) ∧ Fr (x + 22) sg g2 ∧ Bt g2 (x + 22))) (pY "java/lang/IllegalArgumentException" "java/lang/IllegalArgumentException" "java/lang/IllegalArgumentException" (K_simulate a) sg) := by
  refine MX_of hl0 [some (vR (some (5, 0, x))), some (vL u), none, some (vI a), none, none, none] rfl (Nat.le_of_ble_eq_true rfl) (by decide +kernel) ?_
  intro p_ e_ s_ m_ args_ below_ meth_ c_ hC hX hO
  refine V_iload_n hC kX5_simulate_0 rfl ?_
  refine V_iconst hC (1) kX5_simulate_1 (by decide) ?_
  refine V_icmp_lt hC 11 kX5_simulate_2 (by decide) (fun h2 => ?_) (fun h2 => ?_)
  · refine V_thW hC hX (cls := "java/lang/IllegalArgumentException") (text := "m is 1 to 60") thc1 (by decide +kernel) rfl kX5_simulate_11 kX5_simulate_14 kX5_simulate_15 kX5_simulate_18 kX5_simulate_21 ⟨(Nat.le_of_ble_eq_true rfl), (Nat.le_of_ble_eq_true rfl)⟩ ⟨(Nat.le_of_ble_eq_true rfl), (Nat.le_of_ble_eq_true rfl)⟩ ?_
    first
    | exact pY1 (if_neg (fun z => absurd z.1 (Int32.not_le.mpr h2)))
    | exact pY1 (if_neg (fun z => h8 z.2))
  · refine V_iload_n hC kX5_simulate_5 rfl ?_
    refine V_bipush hC (60) kX5_simulate_6 (by decide) ?_
    refine V_icmp_le hC 22 kX5_simulate_8 (by decide) (fun h8 => ?_) (fun h8 => ?_)
    · have hp : inn a 1 60 := ⟨Int32.not_lt.mp h2, h8⟩
      obtain ⟨N, hN, rfl⟩ := n60 hp
      have en : tn (nI N) = N := nI_clamp (by omega)
      refine V_aload_n hC kX5_simulate_22 rfl ?_
      refine V_getR hC hWr 5 2 lfX5_23 kX5_simulate_23 (Nat.le_of_ble_eq_true rfl) (Nat.le_of_ble_eq_true rfl) rfl ?_
      refine V_aload_n hC kX5_simulate_26 rfl ?_
      refine V_getR hC hWr 5 1 lfX5_19 kX5_simulate_27 (Nat.le_of_ble_eq_true rfl) (Nat.le_of_ble_eq_true rfl) rfl ?_
      refine V_cV_rV hC (cl_copyFrom hWr (c := x + 22) (c2 := x + 4) hR hI (by omega) hT) mkX1_copyFrom lmX5_246 kX5_simulate_30 (Nat.le_of_ble_eq_true rfl) rfl rfl rfl (Nat.le_of_ble_eq_true rfl) ⟨(Nat.le_of_ble_eq_true rfl), (Nat.le_of_ble_eq_true rfl)⟩ ⟨rfl, rfl⟩ ⟨(Nat.le_of_ble_eq_true rfl), (Nat.le_of_ble_eq_true rfl)⟩ (fun g30 h30 => ?_)
      refine V_lload_n hC kX5_simulate_33 rfl ?_
      refine V_lstore hC [some _, some _, none, some _, some _, none, none] kX5_simulate_34 rfl (Nat.le_of_ble_eq_true rfl) ?_
      refine V_iconst hC (0) kX5_simulate_36 (by decide) ?_
      refine V_istore hC [some _, some _, none, some _, some _, none, some _] kX5_simulate_37 rfl (Nat.le_of_ble_eq_true rfl) ?_
      refine V_loopR N (fun i a => Rel a (x + 22) (F_simG g u i) ∧ Fr (x + 22) sg a) (fun i _ => [some (vR (some (5, 0, x))), some (vL u), none, some (vI (nI N)), some (vL (F_simX u i)), none, some (vI (nI i))]) (fun _ a => a) g30 rfl rfl ⟨h30.1, h30.2⟩ (fun a ha => ?_) (fun i a hi ha ih => ?_)
      · refine V_iload hC kX5_simulate_39 rfl ?_
        refine V_iload_n hC kX5_simulate_41 rfl ?_
        refine V_icmp_ge hC 73 kX5_simulate_42 (by decide) (fun h42 => ?_) (fun h42 => absurd h42 (not_not_intro (Int32.le_refl _)))
        refine V_sipush hC (10000) kX5_simulate_73 (by decide) ?_
        refine V_aload_n hC kX5_simulate_76 rfl ?_
        refine V_iconst hC (5) kX5_simulate_77 (by decide) ?_
        refine V_cV_fI hC (cl_gained hWr 5 (by decide) (Rel_t hR hI ha.2) hI ha.1 (Inv_simG hI u N).1) mkX5_gained lmX5_257 kX5_simulate_78 (Nat.le_of_ble_eq_true rfl) rfl rfl rfl (Nat.le_of_ble_eq_true rfl) ⟨(Nat.le_of_ble_eq_true rfl), (Nat.le_of_ble_eq_true rfl)⟩ ⟨rfl, rfl⟩ ⟨(Nat.le_of_ble_eq_true rfl), (Nat.le_of_ble_eq_true rfl)⟩ ?_
        refine V_imul hC kX5_simulate_81 ?_
        refine V_bipush hC (100) kX5_simulate_82 (by decide) ?_
        refine V_aload_n hC kX5_simulate_84 rfl ?_
        refine V_bipush hC (6) kX5_simulate_85 (by decide) ?_
        refine V_cV_fI hC (cl_gained hWr 6 (by decide) (Rel_t hR hI ha.2) hI ha.1 (Inv_simG hI u N).1) mkX5_gained lmX5_257 kX5_simulate_87 (Nat.le_of_ble_eq_true rfl) rfl rfl rfl (Nat.le_of_ble_eq_true rfl) ⟨(Nat.le_of_ble_eq_true rfl), (Nat.le_of_ble_eq_true rfl)⟩ ⟨rfl, rfl⟩ ⟨(Nat.le_of_ble_eq_true rfl), (Nat.le_of_ble_eq_true rfl)⟩ ?_
        refine V_cS_fI hC (cl_shown hWr _) mkX5_shown lmX5_305 kX5_simulate_90 rfl rfl (Nat.le_of_ble_eq_true rfl) ⟨(Nat.le_of_ble_eq_true rfl), (Nat.le_of_ble_eq_true rfl)⟩ ⟨rfl, rfl⟩ ⟨(Nat.le_of_ble_eq_true rfl), (Nat.le_of_ble_eq_true rfl)⟩ ?_
        refine V_imul hC kX5_simulate_93 ?_
        refine V_iadd hC kX5_simulate_94 ?_
        refine V_aload_n hC kX5_simulate_95 rfl ?_
        refine V_bipush hC (8) kX5_simulate_96 (by decide) ?_
        refine V_cV_fI hC (cl_gained hWr 8 (by decide) (Rel_t hR hI ha.2) hI ha.1 (Inv_simG hI u N).1) mkX5_gained lmX5_257 kX5_simulate_98 (Nat.le_of_ble_eq_true rfl) rfl rfl rfl (Nat.le_of_ble_eq_true rfl) ⟨(Nat.le_of_ble_eq_true rfl), (Nat.le_of_ble_eq_true rfl)⟩ ⟨rfl, rfl⟩ ⟨(Nat.le_of_ble_eq_true rfl), (Nat.le_of_ble_eq_true rfl)⟩ ?_
        refine V_cS_fI hC (cl_shown hWr _) mkX5_shown lmX5_305 kX5_simulate_101 rfl rfl (Nat.le_of_ble_eq_true rfl) ⟨(Nat.le_of_ble_eq_true rfl), (Nat.le_of_ble_eq_true rfl)⟩ ⟨rfl, rfl⟩ ⟨(Nat.le_of_ble_eq_true rfl), (Nat.le_of_ble_eq_true rfl)⟩ ?_
        refine V_iadd hC kX5_simulate_104 ?_
        refine V_iretiX hC rfl kX5_simulate_105 ⟨(Nat.le_of_ble_eq_true rfl), (Nat.le_of_ble_eq_true rfl)⟩ ?_
        exact ⟨_, by with_reducible rfl, if_pos hp, by rw [en, tl5, tl5, tl6, tl6, tl8, tl8]; rfl, ha.2, ha.1.2.2.2.2⟩
      · refine V_iload hC kX5_simulate_39 rfl ?_
        refine V_iload_n hC kX5_simulate_41 rfl ?_
        refine V_icmp_ge hC 73 kX5_simulate_42 (by decide) (fun h42 => absurd h42 (nI_ge hi (by omega))) (fun h42 => ?_)
        refine V_lload hC kX5_simulate_45 rfl ?_
        refine V_ldc2 hC lcX5_298 kX5_simulate_47 ?_
        refine V_lmul hC kX5_simulate_50 ?_
        refine V_ldc2 hC lcX5_300 kX5_simulate_51 ?_
        refine V_ladd hC kX5_simulate_54 ?_
        refine V_lstore hC [some _, some _, none, some _, some _, none, some _] kX5_simulate_55 rfl (Nat.le_of_ble_eq_true rfl) ?_
        refine V_aload_n hC kX5_simulate_57 rfl ?_
        refine V_lload hC kX5_simulate_58 rfl ?_
        refine V_bipush hC (33) kX5_simulate_60 (by decide) ?_
        refine V_lushr hC kX5_simulate_62 ?_
        refine V_l2i hC kX5_simulate_63 ?_
        refine V_cV_rV hC (cl_takeTurn hWr _ (simR_pos (F_simX u (i + 1))) ha.1 (Inv_simG hI u i).1) mkX5_takeTurn lmX5_302 kX5_simulate_64 (Nat.le_of_ble_eq_true rfl) rfl rfl rfl (Nat.le_of_ble_eq_true rfl) ⟨(Nat.le_of_ble_eq_true rfl), (Nat.le_of_ble_eq_true rfl)⟩ ⟨rfl, rfl⟩ ⟨(Nat.le_of_ble_eq_true rfl), (Nat.le_of_ble_eq_true rfl)⟩ (fun g64 h64 => ?_)
        refine V_iinc hC (_ + 1) [some _, some _, none, some _, some _, none, some _] kX5_simulate_67 rfl rfl rfl (Nat.le_of_ble_eq_true rfl) ?_
        refine V_goto hC 39 kX5_simulate_70 (by decide) ?_
        refine V_eq ?_ rfl (ih _ ⟨h64.1, ha.2.tr h64.2⟩)
        simp only [nI_succ, F_simX]
    · refine V_thW hC hX (cls := "java/lang/IllegalArgumentException") (text := "m is 1 to 60") thc1 (by decide +kernel) rfl kX5_simulate_11 kX5_simulate_14 kX5_simulate_15 kX5_simulate_18 kX5_simulate_21 ⟨(Nat.le_of_ble_eq_true rfl), (Nat.le_of_ble_eq_true rfl)⟩ ⟨(Nat.le_of_ble_eq_true rfl), (Nat.le_of_ble_eq_true rfl)⟩ ?_
      first
      | exact pY1 (if_neg (fun z => absurd z.1 (Int32.not_le.mpr h2)))
      | exact pY1 (if_neg (fun z => h8 z.2))
def mtX5_border : Mt := (yX5_border, cX5_border, 6, (some .int), 7, 221, 1, 6)
theorem kX5_border_0 : Dk mtX5_border 0 (.iload_n 1) 1 1 := ⟨by decide +kernel, rfl⟩
theorem kX5_border_1 : Dk mtX5_border 1 (.ifCond .ge 14) 3 4 := ⟨by decide +kernel, rfl⟩
theorem kX5_border_4 : Dk mtX5_border 4 (.new 33) 3 7 := ⟨by decide +kernel, rfl⟩
theorem kX5_border_7 : Dk mtX5_border 7 (.dup) 1 8 := ⟨by decide +kernel, rfl⟩
theorem kX5_border_8 : Dk mtX5_border 8 (.ldc_w 265) 3 11 := ⟨by decide +kernel, rfl⟩
theorem kX5_border_11 : Dk mtX5_border 11 (.invokespecial 37) 3 14 := ⟨by decide +kernel, rfl⟩
theorem kX5_border_14 : Dk mtX5_border 14 (.athrow) 1 15 := ⟨by decide +kernel, rfl⟩
theorem kX5_border_15 : Dk mtX5_border 15 (.iconst 0) 1 16 := ⟨by decide +kernel, rfl⟩
theorem kX5_border_16 : Dk mtX5_border 16 (.istore_n 2) 1 17 := ⟨by decide +kernel, rfl⟩
theorem kX5_border_17 : Dk mtX5_border 17 (.aload_n 0) 1 18 := ⟨by decide +kernel, rfl⟩
theorem kX5_border_18 : Dk mtX5_border 18 (.getfield 19) 3 21 := ⟨by decide +kernel, rfl⟩
theorem kX5_border_21 : Dk mtX5_border 21 (.iconst 0) 1 22 := ⟨by decide +kernel, rfl⟩
theorem kX5_border_22 : Dk mtX5_border 22 (.invokevirtual 151) 3 25 := ⟨by decide +kernel, rfl⟩
theorem kX5_border_25 : Dk mtX5_border 25 (.istore_n 3) 1 26 := ⟨by decide +kernel, rfl⟩
theorem kX5_border_26 : Dk mtX5_border 26 (.iconst 1) 1 27 := ⟨by decide +kernel, rfl⟩
theorem kX5_border_27 : Dk mtX5_border 27 (.istore 4) 2 29 := ⟨by decide +kernel, rfl⟩
theorem kX5_border_29 : Dk mtX5_border 29 (.iload 4) 2 31 := ⟨by decide +kernel, rfl⟩
theorem kX5_border_31 : Dk mtX5_border 31 (.sipush 200) 3 34 := ⟨by decide +kernel, rfl⟩
theorem kX5_border_34 : Dk mtX5_border 34 (.if_icmp .ge 40) 3 37 := ⟨by decide +kernel, rfl⟩
theorem kX5_border_37 : Dk mtX5_border 37 (.aload_n 0) 1 38 := ⟨by decide +kernel, rfl⟩
theorem kX5_border_38 : Dk mtX5_border 38 (.getfield 19) 3 41 := ⟨by decide +kernel, rfl⟩
theorem kX5_border_41 : Dk mtX5_border 41 (.iload 4) 2 43 := ⟨by decide +kernel, rfl⟩
theorem kX5_border_43 : Dk mtX5_border 43 (.invokevirtual 151) 3 46 := ⟨by decide +kernel, rfl⟩
theorem kX5_border_46 : Dk mtX5_border 46 (.istore 5) 2 48 := ⟨by decide +kernel, rfl⟩
theorem kX5_border_48 : Dk mtX5_border 48 (.iload 5) 2 50 := ⟨by decide +kernel, rfl⟩
theorem kX5_border_50 : Dk mtX5_border 50 (.iload_n 3) 1 51 := ⟨by decide +kernel, rfl⟩
theorem kX5_border_51 : Dk mtX5_border 51 (.if_icmp .eq 14) 3 54 := ⟨by decide +kernel, rfl⟩
theorem kX5_border_54 : Dk mtX5_border 54 (.iload_n 2) 1 55 := ⟨by decide +kernel, rfl⟩
theorem kX5_border_55 : Dk mtX5_border 55 (.iload_n 1) 1 56 := ⟨by decide +kernel, rfl⟩
theorem kX5_border_56 : Dk mtX5_border 56 (.if_icmp .ne 6) 3 59 := ⟨by decide +kernel, rfl⟩
theorem kX5_border_59 : Dk mtX5_border 59 (.iload 4) 2 61 := ⟨by decide +kernel, rfl⟩
theorem kX5_border_61 : Dk mtX5_border 61 (.ireturn) 1 62 := ⟨by decide +kernel, rfl⟩
theorem kX5_border_62 : Dk mtX5_border 62 (.iinc 2 1) 3 65 := ⟨by decide +kernel, rfl⟩
theorem kX5_border_65 : Dk mtX5_border 65 (.iload 5) 2 67 := ⟨by decide +kernel, rfl⟩
theorem kX5_border_67 : Dk mtX5_border 67 (.istore_n 3) 1 68 := ⟨by decide +kernel, rfl⟩
theorem kX5_border_68 : Dk mtX5_border 68 (.iinc 4 1) 3 71 := ⟨by decide +kernel, rfl⟩
theorem kX5_border_71 : Dk mtX5_border 71 (.goto (-42)) 3 74 := ⟨by decide +kernel, rfl⟩
theorem kX5_border_74 : Dk mtX5_border 74 (.iconst (-1)) 1 75 := ⟨by decide +kernel, rfl⟩
theorem kX5_border_75 : Dk mtX5_border 75 (.ireturn) 1 76 := ⟨by decide +kernel, rfl⟩
set_option maxHeartbeats 4000000 in
set_option maxRecDepth 100000 in
theorem cf_border {l : Launch} {w : Wd} {sg : Sg} (hWr : Wr w) (hl0 : l.stackTraces = false) (k : Int32) {x : Nat} {g : Gs} (hR : Rel sg (x + 4) g) (hI : Inv g) : MX l mtX5_border w [vR (some (5, 0, x)), vI k] sg (rX (K_border k) (fun r g2 => r = R_border g k ∧ g2 = sg)) (pY "java/lang/IllegalArgumentException" "java/lang/IllegalArgumentException" "java/lang/IllegalArgumentException" (K_border k) sg) := by
  refine MX_of hl0 [some (vR (some (5, 0, x))), some (vI k), none, none, none, none] rfl (Nat.le_of_ble_eq_true rfl) (by decide +kernel) ?_
  intro p_ e_ s_ m_ args_ below_ meth_ c_ hC hX hO
  refine V_iload_n hC kX5_border_0 rfl ?_
  refine V_if_ge hC 15 kX5_border_1 (by decide) (fun h1 => ?_) (fun h1 => ?_)
  · refine V_iconst hC (0) kX5_border_15 (by decide) ?_
    refine V_istore_n hC [some _, some _, some _, none, none, none] kX5_border_16 rfl (Nat.le_of_ble_eq_true rfl) ?_
    refine V_aload_n hC kX5_border_17 rfl ?_
    refine V_getR hC hWr 5 1 lfX5_19 kX5_border_18 (Nat.le_of_ble_eq_true rfl) (Nat.le_of_ble_eq_true rfl) rfl ?_
    refine V_iconst hC (0) kX5_border_21 (by decide) ?_
    refine V_cV_fI hC (cl_brightest hWr 0 ⟨by decide, by decide⟩ hR hI) mkX1_brightest lmX5_151 kX5_border_22 (Nat.le_of_ble_eq_true rfl) rfl rfl rfl (Nat.le_of_ble_eq_true rfl) ⟨(Nat.le_of_ble_eq_true rfl), (Nat.le_of_ble_eq_true rfl)⟩ ⟨rfl, rfl⟩ ⟨(Nat.le_of_ble_eq_true rfl), (Nat.le_of_ble_eq_true rfl)⟩ ?_
    refine V_istore_n hC [some _, some _, some _, some _, none, none] kX5_border_25 rfl (Nat.le_of_ble_eq_true rfl) ?_
    refine V_iconst hC (1) kX5_border_26 (by decide) ?_
    refine V_istore hC [some _, some _, some _, some _, some _, none] kX5_border_27 rfl (Nat.le_of_ble_eq_true rfl) ?_
    refine V_loop (fa_first (F_bdp g k) 199) (fun i => [some (vR (some (5, 0, x))), some (vI k), some (vI (k - F_left g k i)), some (vI (F_best g (nI i))), some (vI (nI (i + 1))), none]) (fun i => sg) (by show _ = [_, _, some (vI (k - k)), _, _, _]; rw [Int32.sub_self]; rfl) rfl ?_ (fun i hi ihi => ?_)
    · rcases first_dec (F_bdp g k) 199 with hN | ⟨hN, hq⟩
      · refine V_iload hC kX5_border_29 rfl ?_
        refine V_sipush hC (200) kX5_border_31 (by decide) ?_
        refine V_icmp_ge hC 74 kX5_border_34 (by decide) (fun h34 => ?_) (fun h34 => absurd h34 (not_not_intro (by rw [hN]; exact nI_lit rfl)))
        refine V_iconst hC (-1) kX5_border_74 (by decide) ?_
        refine V_iretiX hC rfl kX5_border_75 ⟨(Nat.le_of_ble_eq_true rfl), (Nat.le_of_ble_eq_true rfl)⟩ ?_
        exact ⟨_, by with_reducible rfl, if_neg (Int32.not_lt.mpr h1), (if_neg (by omega)).symm, rfl⟩
      · have hyes := of_decide_eq_true hq
        refine V_iload hC kX5_border_29 rfl ?_
        refine V_sipush hC (200) kX5_border_31 (by decide) ?_
        refine V_icmp_ge hC 74 kX5_border_34 (by decide) (fun h34 => absurd h34 (by exact nI_ge (a := (fa_first (F_bdp g k) 199) + 1) (b := 200) (by omega) (by decide))) (fun h34 => ?_)
        refine V_aload_n hC kX5_border_37 rfl ?_
        refine V_getR hC hWr 5 1 lfX5_19 kX5_border_38 (Nat.le_of_ble_eq_true rfl) (Nat.le_of_ble_eq_true rfl) rfl ?_
        refine V_iload hC kX5_border_41 rfl ?_
        refine V_cV_fI hC (cl_brightest hWr _ ⟨by rw [nI_toInt (by omega)]; omega, by rw [nI_toInt (by omega)]; omega⟩ hR hI) mkX1_brightest lmX5_151 kX5_border_43 (Nat.le_of_ble_eq_true rfl) rfl rfl rfl (Nat.le_of_ble_eq_true rfl) ⟨(Nat.le_of_ble_eq_true rfl), (Nat.le_of_ble_eq_true rfl)⟩ ⟨rfl, rfl⟩ ⟨(Nat.le_of_ble_eq_true rfl), (Nat.le_of_ble_eq_true rfl)⟩ ?_
        refine V_istore hC [some _, some _, some _, some _, some _, some _] kX5_border_46 rfl (Nat.le_of_ble_eq_true rfl) ?_
        refine V_iload hC kX5_border_48 rfl ?_
        refine V_iload_n hC kX5_border_50 rfl ?_
        refine V_icmp_eq hC 65 kX5_border_51 (by decide) (fun h51 => absurd h51 (fun z => hyes.1 (b01_0' (not_not_intro z)))) (fun h51 => ?_)
        refine V_iload_n hC kX5_border_54 rfl ?_
        refine V_iload_n hC kX5_border_55 rfl ?_
        refine V_icmp_ne hC 62 kX5_border_56 (by decide) (fun h56 => absurd h56 (not_not_intro (by rw [hyes.2]; exact sub0' k))) (fun h56 => ?_)
        refine V_iload hC kX5_border_59 rfl ?_
        refine V_iretiX hC rfl kX5_border_61 ⟨(Nat.le_of_ble_eq_true rfl), (Nat.le_of_ble_eq_true rfl)⟩ ?_
        exact ⟨_, by with_reducible rfl, if_neg (Int32.not_lt.mpr h1), (if_pos hN).symm, rfl⟩
    · have hno : ¬ (¬ F_bd g i = 0 ∧ F_left g k i = 0) := of_decide_eq_false (fa_first_no _ _ _ hi)
      have hi9 : i < 199 := Nat.lt_of_lt_of_le hi (fa_first_le _ _)
      refine V_iload hC kX5_border_29 rfl ?_
      refine V_sipush hC (200) kX5_border_31 (by decide) ?_
      refine V_icmp_ge hC 74 kX5_border_34 (by decide) (fun h34 => absurd h34 (by exact nI_ge (a := i + 1) (b := 200) (by omega) (by decide))) (fun h34 => ?_)
      refine V_aload_n hC kX5_border_37 rfl ?_
      refine V_getR hC hWr 5 1 lfX5_19 kX5_border_38 (Nat.le_of_ble_eq_true rfl) (Nat.le_of_ble_eq_true rfl) rfl ?_
      refine V_iload hC kX5_border_41 rfl ?_
      refine V_cV_fI hC (cl_brightest hWr _ ⟨by rw [nI_toInt (by omega)]; omega, by rw [nI_toInt (by omega)]; omega⟩ hR hI) mkX1_brightest lmX5_151 kX5_border_43 (Nat.le_of_ble_eq_true rfl) rfl rfl rfl (Nat.le_of_ble_eq_true rfl) ⟨(Nat.le_of_ble_eq_true rfl), (Nat.le_of_ble_eq_true rfl)⟩ ⟨rfl, rfl⟩ ⟨(Nat.le_of_ble_eq_true rfl), (Nat.le_of_ble_eq_true rfl)⟩ ?_
      refine V_istore hC [some _, some _, some _, some _, some _, some _] kX5_border_46 rfl (Nat.le_of_ble_eq_true rfl) ?_
      refine V_iload hC kX5_border_48 rfl ?_
      refine V_iload_n hC kX5_border_50 rfl ?_
      refine V_icmp_eq hC 65 kX5_border_51 (by decide) (fun h51 => ?_) (fun h51 => ?_)
      · have hb : F_bd g i = 0 := b01_0' (not_not_intro h51)
        refine V_iload hC kX5_border_65 rfl ?_
        refine V_istore_n hC [some _, some _, some _, some _, some _, some _] kX5_border_67 rfl (Nat.le_of_ble_eq_true rfl) ?_
        refine V_iinc hC (_ + 1) [some _, some _, some _, some _, some _, some _] kX5_border_68 rfl rfl rfl (Nat.le_of_ble_eq_true rfl) ?_
        refine V_goto hC 29 kX5_border_71 (by decide) ?_
        refine V_drop 5 [_, _, _, _, _, none] rfl ?_
        refine V_eq ?_ rfl ihi
        rw [F_left, hb, sub0', nI_succ (i + 1)]
      · have hb : F_bd g i = 1 := b01_1' h51
        refine V_iload_n hC kX5_border_54 rfl ?_
        refine V_iload_n hC kX5_border_55 rfl ?_
        refine V_icmp_ne hC 62 kX5_border_56 (by decide) (fun h56 => ?_) (fun h56 => absurd h56 (fun z => hno ⟨by rw [hb]; decide, left0 z⟩))
        refine V_iinc hC (_ + 1) [some _, some _, some _, some _, some _, some _] kX5_border_62 rfl rfl rfl (Nat.le_of_ble_eq_true rfl) ?_
        refine V_iload hC kX5_border_65 rfl ?_
        refine V_istore_n hC [some _, some _, some _, some _, some _, some _] kX5_border_67 rfl (Nat.le_of_ble_eq_true rfl) ?_
        refine V_iinc hC (_ + 1) [some _, some _, some _, some _, some _, some _] kX5_border_68 rfl rfl rfl (Nat.le_of_ble_eq_true rfl) ?_
        refine V_goto hC 29 kX5_border_71 (by decide) ?_
        refine V_drop 5 [_, _, _, _, _, none] rfl ?_
        refine V_eq ?_ rfl ihi
        rw [F_left, hb, ksub, nI_succ (i + 1)]
  · refine V_thW hC hX (cls := "java/lang/IllegalArgumentException") (text := "k is negative") thc1 (by decide +kernel) rfl kX5_border_4 kX5_border_7 kX5_border_8 kX5_border_11 kX5_border_14 ⟨(Nat.le_of_ble_eq_true rfl), (Nat.le_of_ble_eq_true rfl)⟩ ⟨(Nat.le_of_ble_eq_true rfl), (Nat.le_of_ble_eq_true rfl)⟩ ?_
    exact pY1 (if_pos (Int32.not_le.mp h1))
def mtX5_bestMargin : Mt := (yX5_bestMargin, cX5_bestMargin, 8, (some .int), 7, 221, 1, 6)
theorem kX5_bestMargin_0 : Dk mtX5_bestMargin 0 (.iload_n 1) 1 1 := ⟨by decide +kernel, rfl⟩
theorem kX5_bestMargin_1 : Dk mtX5_bestMargin 1 (.iconst 1) 1 2 := ⟨by decide +kernel, rfl⟩
theorem kX5_bestMargin_2 : Dk mtX5_bestMargin 2 (.if_icmp .lt 9) 3 5 := ⟨by decide +kernel, rfl⟩
theorem kX5_bestMargin_5 : Dk mtX5_bestMargin 5 (.iload_n 1) 1 6 := ⟨by decide +kernel, rfl⟩
theorem kX5_bestMargin_6 : Dk mtX5_bestMargin 6 (.bipush 100) 2 8 := ⟨by decide +kernel, rfl⟩
theorem kX5_bestMargin_8 : Dk mtX5_bestMargin 8 (.if_icmp .le 14) 3 11 := ⟨by decide +kernel, rfl⟩
theorem kX5_bestMargin_11 : Dk mtX5_bestMargin 11 (.new 33) 3 14 := ⟨by decide +kernel, rfl⟩
theorem kX5_bestMargin_14 : Dk mtX5_bestMargin 14 (.dup) 1 15 := ⟨by decide +kernel, rfl⟩
theorem kX5_bestMargin_15 : Dk mtX5_bestMargin 15 (.ldc_w 260) 3 18 := ⟨by decide +kernel, rfl⟩
theorem kX5_bestMargin_18 : Dk mtX5_bestMargin 18 (.invokespecial 37) 3 21 := ⟨by decide +kernel, rfl⟩
theorem kX5_bestMargin_21 : Dk mtX5_bestMargin 21 (.athrow) 1 22 := ⟨by decide +kernel, rfl⟩
theorem kX5_bestMargin_22 : Dk mtX5_bestMargin 22 (.iconst (-1)) 1 23 := ⟨by decide +kernel, rfl⟩
theorem kX5_bestMargin_23 : Dk mtX5_bestMargin 23 (.istore_n 2) 1 24 := ⟨by decide +kernel, rfl⟩
theorem kX5_bestMargin_24 : Dk mtX5_bestMargin 24 (.iconst 0) 1 25 := ⟨by decide +kernel, rfl⟩
theorem kX5_bestMargin_25 : Dk mtX5_bestMargin 25 (.istore_n 3) 1 26 := ⟨by decide +kernel, rfl⟩
theorem kX5_bestMargin_26 : Dk mtX5_bestMargin 26 (.iconst 0) 1 27 := ⟨by decide +kernel, rfl⟩
theorem kX5_bestMargin_27 : Dk mtX5_bestMargin 27 (.istore 4) 2 29 := ⟨by decide +kernel, rfl⟩
theorem kX5_bestMargin_29 : Dk mtX5_bestMargin 29 (.iconst 0) 1 30 := ⟨by decide +kernel, rfl⟩
theorem kX5_bestMargin_30 : Dk mtX5_bestMargin 30 (.istore 5) 2 32 := ⟨by decide +kernel, rfl⟩
theorem kX5_bestMargin_32 : Dk mtX5_bestMargin 32 (.iload 5) 2 34 := ⟨by decide +kernel, rfl⟩
theorem kX5_bestMargin_34 : Dk mtX5_bestMargin 34 (.bipush 60) 2 36 := ⟨by decide +kernel, rfl⟩
theorem kX5_bestMargin_36 : Dk mtX5_bestMargin 36 (.if_icmp .gt 72) 3 39 := ⟨by decide +kernel, rfl⟩
theorem kX5_bestMargin_39 : Dk mtX5_bestMargin 39 (.aload_n 0) 1 40 := ⟨by decide +kernel, rfl⟩
theorem kX5_bestMargin_40 : Dk mtX5_bestMargin 40 (.iload 5) 2 42 := ⟨by decide +kernel, rfl⟩
theorem kX5_bestMargin_42 : Dk mtX5_bestMargin 42 (.iload_n 1) 1 43 := ⟨by decide +kernel, rfl⟩
theorem kX5_bestMargin_43 : Dk mtX5_bestMargin 43 (.invokevirtual 253) 3 46 := ⟨by decide +kernel, rfl⟩
theorem kX5_bestMargin_46 : Dk mtX5_bestMargin 46 (.aload_n 0) 1 47 := ⟨by decide +kernel, rfl⟩
theorem kX5_bestMargin_47 : Dk mtX5_bestMargin 47 (.bipush 6) 2 49 := ⟨by decide +kernel, rfl⟩
theorem kX5_bestMargin_49 : Dk mtX5_bestMargin 49 (.invokevirtual 257) 3 52 := ⟨by decide +kernel, rfl⟩
theorem kX5_bestMargin_52 : Dk mtX5_bestMargin 52 (.aload_n 0) 1 53 := ⟨by decide +kernel, rfl⟩
theorem kX5_bestMargin_53 : Dk mtX5_bestMargin 53 (.bipush 8) 2 55 := ⟨by decide +kernel, rfl⟩
theorem kX5_bestMargin_55 : Dk mtX5_bestMargin 55 (.invokevirtual 257) 3 58 := ⟨by decide +kernel, rfl⟩
theorem kX5_bestMargin_58 : Dk mtX5_bestMargin 58 (.iadd) 1 59 := ⟨by decide +kernel, rfl⟩
theorem kX5_bestMargin_59 : Dk mtX5_bestMargin 59 (.istore 6) 2 61 := ⟨by decide +kernel, rfl⟩
theorem kX5_bestMargin_61 : Dk mtX5_bestMargin 61 (.aload_n 0) 1 62 := ⟨by decide +kernel, rfl⟩
theorem kX5_bestMargin_62 : Dk mtX5_bestMargin 62 (.iconst 5) 1 63 := ⟨by decide +kernel, rfl⟩
theorem kX5_bestMargin_63 : Dk mtX5_bestMargin 63 (.invokevirtual 257) 3 66 := ⟨by decide +kernel, rfl⟩
theorem kX5_bestMargin_66 : Dk mtX5_bestMargin 66 (.istore 7) 2 68 := ⟨by decide +kernel, rfl⟩
theorem kX5_bestMargin_68 : Dk mtX5_bestMargin 68 (.iload_n 2) 1 69 := ⟨by decide +kernel, rfl⟩
theorem kX5_bestMargin_69 : Dk mtX5_bestMargin 69 (.iconst (-1)) 1 70 := ⟨by decide +kernel, rfl⟩
theorem kX5_bestMargin_70 : Dk mtX5_bestMargin 70 (.if_icmp .eq 22) 3 73 := ⟨by decide +kernel, rfl⟩
theorem kX5_bestMargin_73 : Dk mtX5_bestMargin 73 (.iload 6) 2 75 := ⟨by decide +kernel, rfl⟩
theorem kX5_bestMargin_75 : Dk mtX5_bestMargin 75 (.iload_n 3) 1 76 := ⟨by decide +kernel, rfl⟩
theorem kX5_bestMargin_76 : Dk mtX5_bestMargin 76 (.if_icmp .lt 16) 3 79 := ⟨by decide +kernel, rfl⟩
theorem kX5_bestMargin_79 : Dk mtX5_bestMargin 79 (.iload 6) 2 81 := ⟨by decide +kernel, rfl⟩
theorem kX5_bestMargin_81 : Dk mtX5_bestMargin 81 (.iload_n 3) 1 82 := ⟨by decide +kernel, rfl⟩
theorem kX5_bestMargin_82 : Dk mtX5_bestMargin 82 (.if_icmp .ne 20) 3 85 := ⟨by decide +kernel, rfl⟩
theorem kX5_bestMargin_85 : Dk mtX5_bestMargin 85 (.iload 7) 2 87 := ⟨by decide +kernel, rfl⟩
theorem kX5_bestMargin_87 : Dk mtX5_bestMargin 87 (.iload 4) 2 89 := ⟨by decide +kernel, rfl⟩
theorem kX5_bestMargin_89 : Dk mtX5_bestMargin 89 (.if_icmp .ge 13) 3 92 := ⟨by decide +kernel, rfl⟩
theorem kX5_bestMargin_92 : Dk mtX5_bestMargin 92 (.iload 5) 2 94 := ⟨by decide +kernel, rfl⟩
theorem kX5_bestMargin_94 : Dk mtX5_bestMargin 94 (.istore_n 2) 1 95 := ⟨by decide +kernel, rfl⟩
theorem kX5_bestMargin_95 : Dk mtX5_bestMargin 95 (.iload 6) 2 97 := ⟨by decide +kernel, rfl⟩
theorem kX5_bestMargin_97 : Dk mtX5_bestMargin 97 (.istore_n 3) 1 98 := ⟨by decide +kernel, rfl⟩
theorem kX5_bestMargin_98 : Dk mtX5_bestMargin 98 (.iload 7) 2 100 := ⟨by decide +kernel, rfl⟩
theorem kX5_bestMargin_100 : Dk mtX5_bestMargin 100 (.istore 4) 2 102 := ⟨by decide +kernel, rfl⟩
theorem kX5_bestMargin_102 : Dk mtX5_bestMargin 102 (.iinc 5 5) 3 105 := ⟨by decide +kernel, rfl⟩
theorem kX5_bestMargin_105 : Dk mtX5_bestMargin 105 (.goto (-73)) 3 108 := ⟨by decide +kernel, rfl⟩
theorem kX5_bestMargin_108 : Dk mtX5_bestMargin 108 (.iload_n 2) 1 109 := ⟨by decide +kernel, rfl⟩
theorem kX5_bestMargin_109 : Dk mtX5_bestMargin 109 (.ireturn) 1 110 := ⟨by decide +kernel, rfl⟩
set_option maxHeartbeats 4000000 in
set_option maxRecDepth 100000 in
theorem cf_bestMargin {l : Launch} {w : Wd} {sg : Sg} (hWr : Wr w) (hl0 : l.stackTraces = false) (n : Int32) {x : Nat} {g : Gs} (hR : Rel sg (x + 4) g) (hI : Inv g) (hT : Bt sg (x + 22)) : MX l mtX5_bestMargin w [vR (some (5, 0, x)), vI n] sg (rX (K_bestMargin n) (fun r g2 => r = (F_bm g (tn n) 13).1 ∧ Fr (x + 22) sg g2 ∧ Bt g2 (x + 22))) (pY "java/lang/IllegalArgumentException" "java/lang/IllegalArgumentException" "java/lang/IllegalArgumentException" (K_bestMargin n) sg) := by
  refine MX_of hl0 [some (vR (some (5, 0, x))), some (vI n), none, none, none, none, none, none] rfl (Nat.le_of_ble_eq_true rfl) (by decide +kernel) ?_
  intro p_ e_ s_ m_ args_ below_ meth_ c_ hC hX hO
  refine V_iload_n hC kX5_bestMargin_0 rfl ?_
  refine V_iconst hC (1) kX5_bestMargin_1 (by decide) ?_
  refine V_icmp_lt hC 11 kX5_bestMargin_2 (by decide) (fun h2 => ?_) (fun h2 => ?_)
  · refine V_thW hC hX (cls := "java/lang/IllegalArgumentException") (text := "n is 1 to 100") thc1 (by decide +kernel) rfl kX5_bestMargin_11 kX5_bestMargin_14 kX5_bestMargin_15 kX5_bestMargin_18 kX5_bestMargin_21 ⟨(Nat.le_of_ble_eq_true rfl), (Nat.le_of_ble_eq_true rfl)⟩ ⟨(Nat.le_of_ble_eq_true rfl), (Nat.le_of_ble_eq_true rfl)⟩ ?_
    first
    | exact pY1 (if_neg (fun z => absurd z.1 (Int32.not_le.mpr h2)))
    | exact pY1 (if_neg (fun z => h8 z.2))
  · refine V_iload_n hC kX5_bestMargin_5 rfl ?_
    refine V_bipush hC (100) kX5_bestMargin_6 (by decide) ?_
    refine V_icmp_le hC 22 kX5_bestMargin_8 (by decide) (fun h8 => ?_) (fun h8 => ?_)
    · have hp : inn n 1 100 := ⟨Int32.not_lt.mp h2, h8⟩
      obtain ⟨N, hN, rfl⟩ := n100 hp
      have en : tn (nI N) = N := nI_clamp (by omega)
      refine V_iconst hC (-1) kX5_bestMargin_22 (by decide) ?_
      refine V_istore_n hC [some _, some _, some _, none, none, none, none, none] kX5_bestMargin_23 rfl (Nat.le_of_ble_eq_true rfl) ?_
      refine V_iconst hC (0) kX5_bestMargin_24 (by decide) ?_
      refine V_istore_n hC [some _, some _, some _, some _, none, none, none, none] kX5_bestMargin_25 rfl (Nat.le_of_ble_eq_true rfl) ?_
      refine V_iconst hC (0) kX5_bestMargin_26 (by decide) ?_
      refine V_istore hC [some _, some _, some _, some _, some _, none, none, none] kX5_bestMargin_27 rfl (Nat.le_of_ble_eq_true rfl) ?_
      refine V_iconst hC (0) kX5_bestMargin_29 (by decide) ?_
      refine V_istore hC [some _, some _, some _, some _, some _, some _, none, none] kX5_bestMargin_30 rfl (Nat.le_of_ble_eq_true rfl) ?_
      refine V_loopR 13 (fun i a => Fr (x + 22) sg a ∧ Bt a (x + 22)) (fun i _ => [some (vR (some (5, 0, x))), some (vI (nI N)), some (vI (F_bm g N i).1), some (vI (F_bm g N i).2.1), some (vI (F_bm g N i).2.2), some (vI (nI (5 * i))), none, none]) (fun _ a => a) sg rfl rfl ⟨Fr.rf _ _, hT⟩ (fun a ha => ?_) (fun i a hi ha ih => ?_)
      · refine V_iload hC kX5_bestMargin_32 rfl ?_
        refine V_bipush hC (60) kX5_bestMargin_34 (by decide) ?_
        refine V_icmp_gt hC 108 kX5_bestMargin_36 (by decide) (fun h36 => ?_) (fun h36 => absurd h36 (not_not_intro (by decide)))
        refine V_iload_n hC kX5_bestMargin_108 rfl ?_
        refine V_iretiX hC rfl kX5_bestMargin_109 ⟨(Nat.le_of_ble_eq_true rfl), (Nat.le_of_ble_eq_true rfl)⟩ ?_
        exact ⟨_, by with_reducible rfl, if_pos hp, by rw [en], ha⟩
      · have hv : inn (nI (5 * i)) 0 100 := ⟨nI_pos' (by omega), nI_le (a := 5 * i) (b := 100) (by omega) (by decide)⟩
        refine V_iload hC kX5_bestMargin_32 rfl ?_
        refine V_bipush hC (60) kX5_bestMargin_34 (by decide) ?_
        refine V_icmp_gt hC 108 kX5_bestMargin_36 (by decide) (fun h36 => absurd h36 (Int32.not_lt.mpr (by exact nI_le (a := 5 * i) (b := 60) (by omega) (by decide)))) (fun h36 => ?_)
        refine V_aload_n hC kX5_bestMargin_39 rfl ?_
        refine V_iload hC kX5_bestMargin_40 rfl ?_
        refine V_iload_n hC kX5_bestMargin_42 rfl ?_
        refine V_cV_rV hC (cl_tryMargin hWr hv (N := N) (by omega) (Rel_t hR hI ha.1) hI ha.2) mkX5_tryMargin lmX5_253 kX5_bestMargin_43 (Nat.le_of_ble_eq_true rfl) rfl rfl rfl (Nat.le_of_ble_eq_true rfl) ⟨(Nat.le_of_ble_eq_true rfl), (Nat.le_of_ble_eq_true rfl)⟩ ⟨rfl, rfl⟩ ⟨(Nat.le_of_ble_eq_true rfl), (Nat.le_of_ble_eq_true rfl)⟩ (fun g43 h43 => ?_)
        refine V_aload_n hC kX5_bestMargin_46 rfl ?_
        refine V_bipush hC (6) kX5_bestMargin_47 (by decide) ?_
        refine V_cV_fI hC (cl_gained hWr 6 (by decide) (Rel_t hR hI (ha.1.tr h43.2)) hI h43.1 (Inv_ticks (Inv_margin hI hv) N).1) mkX5_gained lmX5_257 kX5_bestMargin_49 (Nat.le_of_ble_eq_true rfl) rfl rfl rfl (Nat.le_of_ble_eq_true rfl) ⟨(Nat.le_of_ble_eq_true rfl), (Nat.le_of_ble_eq_true rfl)⟩ ⟨rfl, rfl⟩ ⟨(Nat.le_of_ble_eq_true rfl), (Nat.le_of_ble_eq_true rfl)⟩ ?_
        refine V_aload_n hC kX5_bestMargin_52 rfl ?_
        refine V_bipush hC (8) kX5_bestMargin_53 (by decide) ?_
        refine V_cV_fI hC (cl_gained hWr 8 (by decide) (Rel_t hR hI (ha.1.tr h43.2)) hI h43.1 (Inv_ticks (Inv_margin hI hv) N).1) mkX5_gained lmX5_257 kX5_bestMargin_55 (Nat.le_of_ble_eq_true rfl) rfl rfl rfl (Nat.le_of_ble_eq_true rfl) ⟨(Nat.le_of_ble_eq_true rfl), (Nat.le_of_ble_eq_true rfl)⟩ ⟨rfl, rfl⟩ ⟨(Nat.le_of_ble_eq_true rfl), (Nat.le_of_ble_eq_true rfl)⟩ ?_
        refine V_iadd hC kX5_bestMargin_58 ?_
        refine V_nameI (fun its e_its => ?_)
        refine V_istore hC [some _, some _, some _, some _, some _, some _, some _, none] kX5_bestMargin_59 rfl (Nat.le_of_ble_eq_true rfl) ?_
        refine V_aload_n hC kX5_bestMargin_61 rfl ?_
        refine V_iconst hC (5) kX5_bestMargin_62 (by decide) ?_
        refine V_cV_fI hC (cl_gained hWr 5 (by decide) (Rel_t hR hI (ha.1.tr h43.2)) hI h43.1 (Inv_ticks (Inv_margin hI hv) N).1) mkX5_gained lmX5_257 kX5_bestMargin_63 (Nat.le_of_ble_eq_true rfl) rfl rfl rfl (Nat.le_of_ble_eq_true rfl) ⟨(Nat.le_of_ble_eq_true rfl), (Nat.le_of_ble_eq_true rfl)⟩ ⟨rfl, rfl⟩ ⟨(Nat.le_of_ble_eq_true rfl), (Nat.le_of_ble_eq_true rfl)⟩ ?_
        refine V_nameI (fun oft e_oft => ?_)
        refine V_istore hC [some _, some _, some _, some _, some _, some _, some _, some _] kX5_bestMargin_66 rfl (Nat.le_of_ble_eq_true rfl) ?_
        rw [tl6, tl6, tl8, tl8] at e_its
        rw [tl5, tl5] at e_oft
        have hF : F_bm g N (i + 1) = if (F_bm g N i).1 = -1 ∨ its < (F_bm g N i).2.1 ∨ (its = (F_bm g N i).2.1 ∧ oft < (F_bm g N i).2.2) then (nI (5 * i), its, oft) else F_bm g N i := by
          rw [F_bm, brj _ _ _ 8 (by decide), brj _ _ _ 10 (by decide), brj _ _ _ 7 (by decide), ← e_its, ← e_oft]
        refine V_iload_n hC kX5_bestMargin_68 rfl ?_
        refine V_iconst hC (-1) kX5_bestMargin_69 (by decide) ?_
        refine V_icmp_eq hC 92 kX5_bestMargin_70 (by decide) (fun h70 => ?_) (fun h70 => ?_)
        · refine V_iload hC kX5_bestMargin_92 rfl ?_
          refine V_istore_n hC [some _, some _, some _, some _, some _, some _, some _, some _] kX5_bestMargin_94 rfl (Nat.le_of_ble_eq_true rfl) ?_
          refine V_iload hC kX5_bestMargin_95 rfl ?_
          refine V_istore_n hC [some _, some _, some _, some _, some _, some _, some _, some _] kX5_bestMargin_97 rfl (Nat.le_of_ble_eq_true rfl) ?_
          refine V_iload hC kX5_bestMargin_98 rfl ?_
          refine V_istore hC [some _, some _, some _, some _, some _, some _, some _, some _] kX5_bestMargin_100 rfl (Nat.le_of_ble_eq_true rfl) ?_
          refine V_iinc hC (_ + 5) [some _, some _, some _, some _, some _, some _, some _, some _] kX5_bestMargin_102 rfl rfl rfl (Nat.le_of_ble_eq_true rfl) ?_
          refine V_goto hC 32 kX5_bestMargin_105 (by decide) ?_
          refine V_drop 6 [_, _, _, _, _, _, none, _] rfl ?_
          refine V_drop 7 [_, _, _, _, _, _, none, none] rfl ?_
          refine V_eq ?_ rfl (ih _ ⟨ha.1.tr h43.2, h43.1.2.2.2.2⟩)
          rw [show nI (5 * i) + 5 = nI (5 * (i + 1)) from nI_add (5 * i) 5, hF, if_pos (Or.inl h70)]
        · refine V_iload hC kX5_bestMargin_73 rfl ?_
          refine V_iload_n hC kX5_bestMargin_75 rfl ?_
          refine V_icmp_lt hC 92 kX5_bestMargin_76 (by decide) (fun h76 => ?_) (fun h76 => ?_)
          · refine V_iload hC kX5_bestMargin_92 rfl ?_
            refine V_istore_n hC [some _, some _, some _, some _, some _, some _, some _, some _] kX5_bestMargin_94 rfl (Nat.le_of_ble_eq_true rfl) ?_
            refine V_iload hC kX5_bestMargin_95 rfl ?_
            refine V_istore_n hC [some _, some _, some _, some _, some _, some _, some _, some _] kX5_bestMargin_97 rfl (Nat.le_of_ble_eq_true rfl) ?_
            refine V_iload hC kX5_bestMargin_98 rfl ?_
            refine V_istore hC [some _, some _, some _, some _, some _, some _, some _, some _] kX5_bestMargin_100 rfl (Nat.le_of_ble_eq_true rfl) ?_
            refine V_iinc hC (_ + 5) [some _, some _, some _, some _, some _, some _, some _, some _] kX5_bestMargin_102 rfl rfl rfl (Nat.le_of_ble_eq_true rfl) ?_
            refine V_goto hC 32 kX5_bestMargin_105 (by decide) ?_
            refine V_drop 6 [_, _, _, _, _, _, none, _] rfl ?_
            refine V_drop 7 [_, _, _, _, _, _, none, none] rfl ?_
            refine V_eq ?_ rfl (ih _ ⟨ha.1.tr h43.2, h43.1.2.2.2.2⟩)
            rw [show nI (5 * i) + 5 = nI (5 * (i + 1)) from nI_add (5 * i) 5, hF, if_pos (Or.inr (Or.inl h76))]
          · refine V_iload hC kX5_bestMargin_79 rfl ?_
            refine V_iload_n hC kX5_bestMargin_81 rfl ?_
            refine V_icmp_ne hC 102 kX5_bestMargin_82 (by decide) (fun h82 => ?_) (fun h82 => ?_)
            · refine V_iinc hC (_ + 5) [some _, some _, some _, some _, some _, some _, some _, some _] kX5_bestMargin_102 rfl rfl rfl (Nat.le_of_ble_eq_true rfl) ?_
              refine V_goto hC 32 kX5_bestMargin_105 (by decide) ?_
              refine V_drop 6 [_, _, _, _, _, _, none, _] rfl ?_
              refine V_drop 7 [_, _, _, _, _, _, none, none] rfl ?_
              refine V_eq ?_ rfl (ih _ ⟨ha.1.tr h43.2, h43.1.2.2.2.2⟩)
              rw [show nI (5 * i) + 5 = nI (5 * (i + 1)) from nI_add (5 * i) 5, hF, if_neg (fun z => z.elim h70 (fun z => z.elim h76 (fun z => h82 z.1)))]
            · refine V_iload hC kX5_bestMargin_85 rfl ?_
              refine V_iload hC kX5_bestMargin_87 rfl ?_
              refine V_icmp_ge hC 102 kX5_bestMargin_89 (by decide) (fun h89 => ?_) (fun h89 => ?_)
              · refine V_iinc hC (_ + 5) [some _, some _, some _, some _, some _, some _, some _, some _] kX5_bestMargin_102 rfl rfl rfl (Nat.le_of_ble_eq_true rfl) ?_
                refine V_goto hC 32 kX5_bestMargin_105 (by decide) ?_
                refine V_drop 6 [_, _, _, _, _, _, none, _] rfl ?_
                refine V_drop 7 [_, _, _, _, _, _, none, none] rfl ?_
                refine V_eq ?_ rfl (ih _ ⟨ha.1.tr h43.2, h43.1.2.2.2.2⟩)
                rw [show nI (5 * i) + 5 = nI (5 * (i + 1)) from nI_add (5 * i) 5, hF, if_neg (fun z => z.elim h70 (fun z => z.elim h76 (fun z => absurd z.2 (Int32.not_lt.mpr h89))))]
              · refine V_iload hC kX5_bestMargin_92 rfl ?_
                refine V_istore_n hC [some _, some _, some _, some _, some _, some _, some _, some _] kX5_bestMargin_94 rfl (Nat.le_of_ble_eq_true rfl) ?_
                refine V_iload hC kX5_bestMargin_95 rfl ?_
                refine V_istore_n hC [some _, some _, some _, some _, some _, some _, some _, some _] kX5_bestMargin_97 rfl (Nat.le_of_ble_eq_true rfl) ?_
                refine V_iload hC kX5_bestMargin_98 rfl ?_
                refine V_istore hC [some _, some _, some _, some _, some _, some _, some _, some _] kX5_bestMargin_100 rfl (Nat.le_of_ble_eq_true rfl) ?_
                refine V_iinc hC (_ + 5) [some _, some _, some _, some _, some _, some _, some _, some _] kX5_bestMargin_102 rfl rfl rfl (Nat.le_of_ble_eq_true rfl) ?_
                refine V_goto hC 32 kX5_bestMargin_105 (by decide) ?_
                refine V_drop 6 [_, _, _, _, _, _, none, _] rfl ?_
                refine V_drop 7 [_, _, _, _, _, _, none, none] rfl ?_
                refine V_eq ?_ rfl (ih _ ⟨ha.1.tr h43.2, h43.1.2.2.2.2⟩)
                rw [show nI (5 * i) + 5 = nI (5 * (i + 1)) from nI_add (5 * i) 5, hF, if_pos (Or.inr (Or.inr ⟨h82, Int32.not_le.mp h89⟩))]
    · refine V_thW hC hX (cls := "java/lang/IllegalArgumentException") (text := "n is 1 to 100") thc1 (by decide +kernel) rfl kX5_bestMargin_11 kX5_bestMargin_14 kX5_bestMargin_15 kX5_bestMargin_18 kX5_bestMargin_21 ⟨(Nat.le_of_ble_eq_true rfl), (Nat.le_of_ble_eq_true rfl)⟩ ⟨(Nat.le_of_ble_eq_true rfl), (Nat.le_of_ble_eq_true rfl)⟩ ?_
      first
      | exact pY1 (if_neg (fun z => absurd z.1 (Int32.not_le.mpr h2)))
      | exact pY1 (if_neg (fun z => h8 z.2))

