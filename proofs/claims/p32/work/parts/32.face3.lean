-- HOW cl_isPlace fI
-- HOW cl_isSpeed fI
-- HOW cl_isStrength fI
-- HOW cl_isTickCount fI
-- HOW cl_isSetting fI
-- HOW cl_isSlot fI
-- HOW cl_isSettingValue fI
-- HOW cl_shown fI
-- HOW cl_lbegin fV
-- HOW cl_lcopy fV
-- HOW cl_bcopy fV
-- HOW cl_lnum fI
-- HOW cl_bnum fI
-- HOW cl_bright fI
-- HOW cl_worth fI
-- HOW cl_bitCount fI
-- HOW cl_servedCount fI
-- HOW cl_takesHandedOn fI
-- HOW cl_takesOthers fI
-- HOW cl_bbegin fV
-- HOW cl_move fV
-- HOW cl_wishFor fV
-- HOW cl_lightR fR
-- HOW cl_lightN fR
-- HOW cl_boatR fR
-- HOW cl_boatN fR
-- HOW cl_setR fI
-- HOW cl_lightAt fR
-- HOW cl_lightAtNo fR
-- HOW cl_boatAt fR
-- HOW cl_boatAtNo fR
-- HOW cl_settingOf fI
-- HOW cl_servedBoats fI
-- HOW cl_talkingBoats fI
-- HOW cl_numberOf fI
-- HOW cl_brightest fI
-- HOW cl_isDark fI
-- HOW cl_freePlaces fI
-- HOW cl_lightFault fI
-- HOW cl_boatFault fI
-- HOW cl_steerFault fI
-- HOW cl_dimFault fI
-- HOW cl_leanFault fI
-- HOW cl_talkFault fI
-- HOW cl_putSpeed rI
-- HOW cl_putTalk rI
-- HOW cl_putLeaning rI
-- HOW cl_putStrength rI
-- HOW cl_putSetting rI
-- HOW cl_addLight rI
-- HOW cl_addBoat rI
-- HOW cl_tryLight rI
-- HOW cl_tryBoat rI
-- HOW cl_trySteer rI
-- HOW cl_tryTalk rI
-- HOW cl_tryLean rI
-- HOW cl_tryDim rI
-- HOW cl_serve rV
-- HOW cl_lose rV
-- HOW cl_bestWish fI
-- HOW cl_seekKeeper rV
-- HOW cl_ask rV
-- HOW cl_sail rV
-- HOW cl_pass rV
-- HOW cl_reset rV
-- HOW cl_copyFrom rV
-- HOW cl_stateAt fR
-- HOW cl_slotAt fR
-- HOW cl_hasStates fI
-- HOW cl_remember rV
-- HOW cl_takeBack rI
-- HOW cl_isKept fI
-- HOW cl_keep rV
-- HOW cl_bring rV
-- HOW cl_gained fI
-- HOW cl_dark fI
-- HOW cl_room fI
-- HOW cl_takeTurn rV
-- HOW cl_throwFault xV
-- HOW cf_about xI
-- HOW cf_lightOf xI
-- HOW cf_boatOf xI
-- HOW cf_bestAt xI
-- HOW cf_setting xI
-- HOW cf_light xI
-- HOW cf_boat xI
-- HOW cf_steer xI
-- HOW cf_talk xI
-- HOW cf_dim xI
-- HOW cf_set xI
-- HOW cf_ticks xI
-- HOW cf_undo xI
-- HOW cf_save xI
-- HOW cf_restore xI
-- HOW cf_simulate xI
-- HOW cf_border xI
/-! the class's face: what tries -/
theorem tl5 (g : Gs) : F_tells g 5 = g 7 := by rw [F_tells, if_neg (by decide), if_neg (by decide)]; rfl
theorem tl6 (g : Gs) : F_tells g 6 = g 8 := by rw [F_tells, if_neg (by decide), if_neg (by decide)]; rfl
theorem tl8 (g : Gs) : F_tells g 8 = g 10 := by rw [F_tells, if_neg (by decide), if_neg (by decide)]; rfl
theorem ksub (k a : Int32) : k - (a - 1) = k - a + 1 := by
  rw [Int32.sub_eq_add_neg k (a - 1), Int32.neg_sub, Int32.sub_eq_add_neg 1 a, Int32.add_comm 1 (-a), ← Int32.add_assoc, ← Int32.sub_eq_add_neg]
theorem left0 {k a : Int32} (h : k - a = k) : a = 0 := by
  have e : k - (k - a) = k - k := congrArg (fun z => k - z) h
  rw [Int32.sub_eq_add_neg k (k - a), Int32.neg_sub, Int32.sub_eq_add_neg a k, Int32.add_comm a (-k), ← Int32.add_assoc, ← Int32.sub_eq_add_neg, Int32.sub_self, Int32.zero_add] at e
  exact e
theorem Rel_t {x : Nat} {g : Gs} {sg g1 : Sg} (hR : Rel sg (x + 4) g) (hI : Inv g) (e : Fr (x + 22) sg g1) : Rel g1 (x + 4) g := hR.fr hI.cn (fun k _ _ => e k (Or.inl (by omega)))
theorem lmX5_257 : LkM RX5 257 mtX5_gained := Or.inl (by decide +kernel)
theorem mkX5_gained : MkV mtX5_gained 1 := ⟨List.mem_of_getElem? (i := 584) (by decide +kernel), by decide +kernel, by decide +kernel, by decide +kernel, ⟨by decide +kernel, by decide +kernel, by decide +kernel⟩⟩
def mtX5_simulate : Mt := (yX5_simulate, cX5_simulate, 7, (some .int), 7, 221, 1, 6)
theorem kX5_simulate_0 : Dk mtX5_simulate 0 (.iload_n 3) 1 1 := ⟨by decide +kernel, rfl⟩
theorem kX5_simulate_1 : Dk mtX5_simulate 1 (.iconst 1) 1 2 := ⟨by decide +kernel, rfl⟩
theorem kX5_simulate_2 : Dk mtX5_simulate 2 (.if_icmp .lt 9) 3 5 := ⟨by decide +kernel, rfl⟩
theorem kX5_simulate_5 : Dk mtX5_simulate 5 (.iload_n 3) 1 6 := ⟨by decide +kernel, rfl⟩
theorem kX5_simulate_6 : Dk mtX5_simulate 6 (.bipush 60) 2 8 := ⟨by decide +kernel, rfl⟩
theorem kX5_simulate_8 : Dk mtX5_simulate 8 (.if_icmp .le 14) 3 11 := ⟨by decide +kernel, rfl⟩
theorem kX5_simulate_11 : Dk mtX5_simulate 11 (.new 33) 3 14 := ⟨by decide +kernel, rfl⟩
theorem kX5_simulate_14 : Dk mtX5_simulate 14 (.dup) 1 15 := ⟨by decide +kernel, rfl⟩
theorem kX5_simulate_15 : Dk mtX5_simulate 15 (.ldc_w 296) 3 18 := ⟨by decide +kernel, rfl⟩
theorem kX5_simulate_18 : Dk mtX5_simulate 18 (.invokespecial 37) 3 21 := ⟨by decide +kernel, rfl⟩
theorem kX5_simulate_21 : Dk mtX5_simulate 21 (.athrow) 1 22 := ⟨by decide +kernel, rfl⟩
theorem kX5_simulate_22 : Dk mtX5_simulate 22 (.aload_n 0) 1 23 := ⟨by decide +kernel, rfl⟩
theorem kX5_simulate_23 : Dk mtX5_simulate 23 (.getfield 23) 3 26 := ⟨by decide +kernel, rfl⟩
theorem kX5_simulate_26 : Dk mtX5_simulate 26 (.aload_n 0) 1 27 := ⟨by decide +kernel, rfl⟩
theorem kX5_simulate_27 : Dk mtX5_simulate 27 (.getfield 19) 3 30 := ⟨by decide +kernel, rfl⟩
theorem kX5_simulate_30 : Dk mtX5_simulate 30 (.invokevirtual 246) 3 33 := ⟨by decide +kernel, rfl⟩
theorem kX5_simulate_33 : Dk mtX5_simulate 33 (.lload_n 1) 1 34 := ⟨by decide +kernel, rfl⟩
theorem kX5_simulate_34 : Dk mtX5_simulate 34 (.lstore 4) 2 36 := ⟨by decide +kernel, rfl⟩
theorem kX5_simulate_36 : Dk mtX5_simulate 36 (.iconst 0) 1 37 := ⟨by decide +kernel, rfl⟩
theorem kX5_simulate_37 : Dk mtX5_simulate 37 (.istore 6) 2 39 := ⟨by decide +kernel, rfl⟩
theorem kX5_simulate_39 : Dk mtX5_simulate 39 (.iload 6) 2 41 := ⟨by decide +kernel, rfl⟩
theorem kX5_simulate_41 : Dk mtX5_simulate 41 (.iload_n 3) 1 42 := ⟨by decide +kernel, rfl⟩
theorem kX5_simulate_42 : Dk mtX5_simulate 42 (.if_icmp .ge 31) 3 45 := ⟨by decide +kernel, rfl⟩
theorem kX5_simulate_45 : Dk mtX5_simulate 45 (.lload 4) 2 47 := ⟨by decide +kernel, rfl⟩
theorem kX5_simulate_47 : Dk mtX5_simulate 47 (.ldc2_w 298) 3 50 := ⟨by decide +kernel, rfl⟩
theorem kX5_simulate_50 : Dk mtX5_simulate 50 (.lmul) 1 51 := ⟨by decide +kernel, rfl⟩
theorem kX5_simulate_51 : Dk mtX5_simulate 51 (.ldc2_w 300) 3 54 := ⟨by decide +kernel, rfl⟩
theorem kX5_simulate_54 : Dk mtX5_simulate 54 (.ladd) 1 55 := ⟨by decide +kernel, rfl⟩
theorem kX5_simulate_55 : Dk mtX5_simulate 55 (.lstore 4) 2 57 := ⟨by decide +kernel, rfl⟩
theorem kX5_simulate_57 : Dk mtX5_simulate 57 (.aload_n 0) 1 58 := ⟨by decide +kernel, rfl⟩
theorem kX5_simulate_58 : Dk mtX5_simulate 58 (.lload 4) 2 60 := ⟨by decide +kernel, rfl⟩
theorem kX5_simulate_60 : Dk mtX5_simulate 60 (.bipush 33) 2 62 := ⟨by decide +kernel, rfl⟩
theorem kX5_simulate_62 : Dk mtX5_simulate 62 (.lushr) 1 63 := ⟨by decide +kernel, rfl⟩
theorem kX5_simulate_63 : Dk mtX5_simulate 63 (.l2i) 1 64 := ⟨by decide +kernel, rfl⟩
theorem kX5_simulate_64 : Dk mtX5_simulate 64 (.invokevirtual 302) 3 67 := ⟨by decide +kernel, rfl⟩
theorem kX5_simulate_67 : Dk mtX5_simulate 67 (.iinc 6 1) 3 70 := ⟨by decide +kernel, rfl⟩
theorem kX5_simulate_70 : Dk mtX5_simulate 70 (.goto (-31)) 3 73 := ⟨by decide +kernel, rfl⟩
theorem kX5_simulate_73 : Dk mtX5_simulate 73 (.sipush 10000) 3 76 := ⟨by decide +kernel, rfl⟩
theorem kX5_simulate_76 : Dk mtX5_simulate 76 (.aload_n 0) 1 77 := ⟨by decide +kernel, rfl⟩
theorem kX5_simulate_77 : Dk mtX5_simulate 77 (.iconst 5) 1 78 := ⟨by decide +kernel, rfl⟩
theorem kX5_simulate_78 : Dk mtX5_simulate 78 (.invokevirtual 257) 3 81 := ⟨by decide +kernel, rfl⟩
theorem kX5_simulate_81 : Dk mtX5_simulate 81 (.imul) 1 82 := ⟨by decide +kernel, rfl⟩
theorem kX5_simulate_82 : Dk mtX5_simulate 82 (.bipush 100) 2 84 := ⟨by decide +kernel, rfl⟩
theorem kX5_simulate_84 : Dk mtX5_simulate 84 (.aload_n 0) 1 85 := ⟨by decide +kernel, rfl⟩
theorem kX5_simulate_85 : Dk mtX5_simulate 85 (.bipush 6) 2 87 := ⟨by decide +kernel, rfl⟩
theorem kX5_simulate_87 : Dk mtX5_simulate 87 (.invokevirtual 257) 3 90 := ⟨by decide +kernel, rfl⟩
theorem kX5_simulate_90 : Dk mtX5_simulate 90 (.invokestatic 305) 3 93 := ⟨by decide +kernel, rfl⟩
theorem kX5_simulate_93 : Dk mtX5_simulate 93 (.imul) 1 94 := ⟨by decide +kernel, rfl⟩
theorem kX5_simulate_94 : Dk mtX5_simulate 94 (.iadd) 1 95 := ⟨by decide +kernel, rfl⟩
theorem kX5_simulate_95 : Dk mtX5_simulate 95 (.aload_n 0) 1 96 := ⟨by decide +kernel, rfl⟩
theorem kX5_simulate_96 : Dk mtX5_simulate 96 (.bipush 8) 2 98 := ⟨by decide +kernel, rfl⟩
theorem kX5_simulate_98 : Dk mtX5_simulate 98 (.invokevirtual 257) 3 101 := ⟨by decide +kernel, rfl⟩
theorem kX5_simulate_101 : Dk mtX5_simulate 101 (.invokestatic 305) 3 104 := ⟨by decide +kernel, rfl⟩
theorem kX5_simulate_104 : Dk mtX5_simulate 104 (.iadd) 1 105 := ⟨by decide +kernel, rfl⟩
theorem kX5_simulate_105 : Dk mtX5_simulate 105 (.ireturn) 1 106 := ⟨by decide +kernel, rfl⟩
theorem lmX5_305 : LkM RX5 305 mtX5_shown := Or.inl (by decide +kernel)
theorem mkX5_shown : MkS mtX5_shown 1 := ⟨List.mem_of_getElem? (i := 587) (by decide +kernel), by decide +kernel, by decide +kernel, ⟨by decide +kernel, by decide +kernel, by decide +kernel⟩⟩
theorem lcX5_298 : Cond.constantLong RX5 298 (6364136223846793005) ∈ lw_tbl := by decide +kernel
theorem lcX5_300 : Cond.constantLong RX5 300 (1442695040888963407) ∈ lw_tbl := by decide +kernel
theorem lmX5_302 : LkM RX5 302 mtX5_takeTurn := Or.inl (by decide +kernel)
theorem mkX5_takeTurn : MkV mtX5_takeTurn 1 := ⟨List.mem_of_getElem? (i := 438) (by decide +kernel), by decide +kernel, by decide +kernel, by decide +kernel, ⟨by decide +kernel, by decide +kernel, by decide +kernel⟩⟩
set_option maxHeartbeats 4000000 in
set_option maxRecDepth 100000 in
theorem cf_simulate {l : Launch} {w : Wd} {sg : Sg} (hWr : Wr w) (hl0 : l.stackTraces = false) (u : Int64) (a : Int32) {x : Nat} {g : Gs} (hR : Rel sg (x + 4) g) (hI : Inv g) (hT : Bt sg (x + 22)) : MX l mtX5_simulate w [vR (some (5, 0, x)), vL u, vI a] sg (rX (K_simulate a) (fun r g2 => r = R_simulate g u (tn a) ∧ Fr (x + 22) sg g2 ∧ Bt g2 (x + 22))) (pY "java/lang/IllegalArgumentException" "java/lang/IllegalArgumentException" "java/lang/IllegalArgumentException" (K_simulate a) sg) := by
  refine MX_of hl0 [some (vR (some (5, 0, x))), some (vL u), none, some (vI a), none, none, none] rfl (Nat.le_of_ble_eq_true rfl) (by decide +kernel) ?_
  intro p_ e_ s_ m_ args_ below_ meth_ c_ hC hX hO
  refine V_iload_n hC kX5_simulate_0 rfl ?_
  refine V_iconst hC (1) kX5_simulate_1 (by decide) ?_
  refine V_icmp_lt hC 11 kX5_simulate_2 (by decide) (fun h2 => ?_) (fun h2 => ?_)
  · refine V_thW hC hX (cls := "java/lang/IllegalArgumentException") (text := "m is 1 to 60") thc1 (by decide +kernel) rfl kX5_simulate_11 kX5_simulate_14 kX5_simulate_15 kX5_simulate_18 kX5_simulate_21 ⟨(Nat.le_of_ble_eq_true rfl), (Nat.le_of_ble_eq_true rfl)⟩ ⟨(Nat.le_of_ble_eq_true rfl), (Nat.le_of_ble_eq_true rfl)⟩ ?_
    first
    | exact pY1 (if_neg (fun z => absurd z.1 (Int32.not_le.mpr h2)))
    | exact pY1 (if_neg (fun z => h8 z.2))
  · refine V_iload_n hC kX5_simulate_5 rfl ?_
    refine V_bipush hC (60) kX5_simulate_6 (by decide) ?_
    refine V_icmp_le hC 22 kX5_simulate_8 (by decide) (fun h8 => ?_) (fun h8 => ?_)
    · have hp : inn a 1 60 := ⟨Int32.not_lt.mp h2, h8⟩
      obtain ⟨N, hN, rfl⟩ := n60 hp
      have en : tn (nI N) = N := nI_clamp (by omega)
      refine V_aload_n hC kX5_simulate_22 rfl ?_
      refine V_getR hC hWr 5 2 lfX5_23 kX5_simulate_23 (Nat.le_of_ble_eq_true rfl) (Nat.le_of_ble_eq_true rfl) rfl ?_
      refine V_aload_n hC kX5_simulate_26 rfl ?_
      refine V_getR hC hWr 5 1 lfX5_19 kX5_simulate_27 (Nat.le_of_ble_eq_true rfl) (Nat.le_of_ble_eq_true rfl) rfl ?_
      refine V_cV_rV hC (cl_copyFrom hWr (c := x + 22) (c2 := x + 4) hR hI (by omega) hT) mkX1_copyFrom lmX5_246 kX5_simulate_30 (Nat.le_of_ble_eq_true rfl) rfl rfl rfl (Nat.le_of_ble_eq_true rfl) ⟨(Nat.le_of_ble_eq_true rfl), (Nat.le_of_ble_eq_true rfl)⟩ ⟨rfl, rfl⟩ ⟨(Nat.le_of_ble_eq_true rfl), (Nat.le_of_ble_eq_true rfl)⟩ (fun g30 h30 => ?_)
      refine V_lload_n hC kX5_simulate_33 rfl ?_
      refine V_lstore hC [some _, some _, none, some _, some _, none, none] kX5_simulate_34 rfl (Nat.le_of_ble_eq_true rfl) ?_
      refine V_iconst hC (0) kX5_simulate_36 (by decide) ?_
      refine V_istore hC [some _, some _, none, some _, some _, none, some _] kX5_simulate_37 rfl (Nat.le_of_ble_eq_true rfl) ?_
      refine V_loopR N (fun i a => Rel a (x + 22) (F_simG g u i) ∧ Fr (x + 22) sg a) (fun i _ => [some (vR (some (5, 0, x))), some (vL u), none, some (vI (nI N)), some (vL (F_simX u i)), none, some (vI (nI i))]) (fun _ a => a) g30 rfl rfl ⟨h30.1, h30.2⟩ (fun a ha => ?_) (fun i a hi ha ih => ?_)
      · refine V_iload hC kX5_simulate_39 rfl ?_
        refine V_iload_n hC kX5_simulate_41 rfl ?_
        refine V_icmp_ge hC 73 kX5_simulate_42 (by decide) (fun h42 => ?_) (fun h42 => absurd h42 (not_not_intro (Int32.le_refl _)))
        refine V_sipush hC (10000) kX5_simulate_73 (by decide) ?_
        refine V_aload_n hC kX5_simulate_76 rfl ?_
        refine V_iconst hC (5) kX5_simulate_77 (by decide) ?_
        refine V_cV_fI hC (cl_gained hWr 5 (by decide) (Rel_t hR hI ha.2) hI ha.1 (Inv_simG hI u N).1) mkX5_gained lmX5_257 kX5_simulate_78 (Nat.le_of_ble_eq_true rfl) rfl rfl rfl (Nat.le_of_ble_eq_true rfl) ⟨(Nat.le_of_ble_eq_true rfl), (Nat.le_of_ble_eq_true rfl)⟩ ⟨rfl, rfl⟩ ⟨(Nat.le_of_ble_eq_true rfl), (Nat.le_of_ble_eq_true rfl)⟩ ?_
        refine V_imul hC kX5_simulate_81 ?_
        refine V_bipush hC (100) kX5_simulate_82 (by decide) ?_
        refine V_aload_n hC kX5_simulate_84 rfl ?_
        refine V_bipush hC (6) kX5_simulate_85 (by decide) ?_
        refine V_cV_fI hC (cl_gained hWr 6 (by decide) (Rel_t hR hI ha.2) hI ha.1 (Inv_simG hI u N).1) mkX5_gained lmX5_257 kX5_simulate_87 (Nat.le_of_ble_eq_true rfl) rfl rfl rfl (Nat.le_of_ble_eq_true rfl) ⟨(Nat.le_of_ble_eq_true rfl), (Nat.le_of_ble_eq_true rfl)⟩ ⟨rfl, rfl⟩ ⟨(Nat.le_of_ble_eq_true rfl), (Nat.le_of_ble_eq_true rfl)⟩ ?_
        refine V_cS_fI hC (cl_shown hWr _) mkX5_shown lmX5_305 kX5_simulate_90 rfl rfl (Nat.le_of_ble_eq_true rfl) ⟨(Nat.le_of_ble_eq_true rfl), (Nat.le_of_ble_eq_true rfl)⟩ ⟨rfl, rfl⟩ ⟨(Nat.le_of_ble_eq_true rfl), (Nat.le_of_ble_eq_true rfl)⟩ ?_
        refine V_imul hC kX5_simulate_93 ?_
        refine V_iadd hC kX5_simulate_94 ?_
        refine V_aload_n hC kX5_simulate_95 rfl ?_
        refine V_bipush hC (8) kX5_simulate_96 (by decide) ?_
        refine V_cV_fI hC (cl_gained hWr 8 (by decide) (Rel_t hR hI ha.2) hI ha.1 (Inv_simG hI u N).1) mkX5_gained lmX5_257 kX5_simulate_98 (Nat.le_of_ble_eq_true rfl) rfl rfl rfl (Nat.le_of_ble_eq_true rfl) ⟨(Nat.le_of_ble_eq_true rfl), (Nat.le_of_ble_eq_true rfl)⟩ ⟨rfl, rfl⟩ ⟨(Nat.le_of_ble_eq_true rfl), (Nat.le_of_ble_eq_true rfl)⟩ ?_
        refine V_cS_fI hC (cl_shown hWr _) mkX5_shown lmX5_305 kX5_simulate_101 rfl rfl (Nat.le_of_ble_eq_true rfl) ⟨(Nat.le_of_ble_eq_true rfl), (Nat.le_of_ble_eq_true rfl)⟩ ⟨rfl, rfl⟩ ⟨(Nat.le_of_ble_eq_true rfl), (Nat.le_of_ble_eq_true rfl)⟩ ?_
        refine V_iadd hC kX5_simulate_104 ?_
        refine V_iretiX hC rfl kX5_simulate_105 ⟨(Nat.le_of_ble_eq_true rfl), (Nat.le_of_ble_eq_true rfl)⟩ ?_
        exact ⟨_, by with_reducible rfl, if_pos hp, by rw [en, tl5, tl5, tl6, tl6, tl8, tl8]; rfl, ha.2, ha.1.2.2.2.2⟩
      · refine V_iload hC kX5_simulate_39 rfl ?_
        refine V_iload_n hC kX5_simulate_41 rfl ?_
        refine V_icmp_ge hC 73 kX5_simulate_42 (by decide) (fun h42 => absurd h42 (nI_ge hi (by omega))) (fun h42 => ?_)
        refine V_lload hC kX5_simulate_45 rfl ?_
        refine V_ldc2 hC lcX5_298 kX5_simulate_47 ?_
        refine V_lmul hC kX5_simulate_50 ?_
        refine V_ldc2 hC lcX5_300 kX5_simulate_51 ?_
        refine V_ladd hC kX5_simulate_54 ?_
        refine V_lstore hC [some _, some _, none, some _, some _, none, some _] kX5_simulate_55 rfl (Nat.le_of_ble_eq_true rfl) ?_
        refine V_aload_n hC kX5_simulate_57 rfl ?_
        refine V_lload hC kX5_simulate_58 rfl ?_
        refine V_bipush hC (33) kX5_simulate_60 (by decide) ?_
        refine V_lushr hC kX5_simulate_62 ?_
        refine V_l2i hC kX5_simulate_63 ?_
        refine V_cV_rV hC (cl_takeTurn hWr _ (simR_pos (F_simX u (i + 1))) ha.1 (Inv_simG hI u i).1) mkX5_takeTurn lmX5_302 kX5_simulate_64 (Nat.le_of_ble_eq_true rfl) rfl rfl rfl (Nat.le_of_ble_eq_true rfl) ⟨(Nat.le_of_ble_eq_true rfl), (Nat.le_of_ble_eq_true rfl)⟩ ⟨rfl, rfl⟩ ⟨(Nat.le_of_ble_eq_true rfl), (Nat.le_of_ble_eq_true rfl)⟩ (fun g64 h64 => ?_)
        refine V_iinc hC (_ + 1) [some _, some _, none, some _, some _, none, some _] kX5_simulate_67 rfl rfl rfl (Nat.le_of_ble_eq_true rfl) ?_
        refine V_goto hC 39 kX5_simulate_70 (by decide) ?_
        refine V_eq ?_ rfl (ih _ ⟨h64.1, ha.2.tr h64.2⟩)
        simp only [nI_succ, F_simX]
    · refine V_thW hC hX (cls := "java/lang/IllegalArgumentException") (text := "m is 1 to 60") thc1 (by decide +kernel) rfl kX5_simulate_11 kX5_simulate_14 kX5_simulate_15 kX5_simulate_18 kX5_simulate_21 ⟨(Nat.le_of_ble_eq_true rfl), (Nat.le_of_ble_eq_true rfl)⟩ ⟨(Nat.le_of_ble_eq_true rfl), (Nat.le_of_ble_eq_true rfl)⟩ ?_
      first
      | exact pY1 (if_neg (fun z => absurd z.1 (Int32.not_le.mpr h2)))
      | exact pY1 (if_neg (fun z => h8 z.2))
def mtX5_border : Mt := (yX5_border, cX5_border, 6, (some .int), 7, 221, 1, 6)
theorem kX5_border_0 : Dk mtX5_border 0 (.iload_n 1) 1 1 := ⟨by decide +kernel, rfl⟩
theorem kX5_border_1 : Dk mtX5_border 1 (.ifCond .ge 14) 3 4 := ⟨by decide +kernel, rfl⟩
theorem kX5_border_4 : Dk mtX5_border 4 (.new 33) 3 7 := ⟨by decide +kernel, rfl⟩
theorem kX5_border_7 : Dk mtX5_border 7 (.dup) 1 8 := ⟨by decide +kernel, rfl⟩
theorem kX5_border_8 : Dk mtX5_border 8 (.ldc_w 265) 3 11 := ⟨by decide +kernel, rfl⟩
theorem kX5_border_11 : Dk mtX5_border 11 (.invokespecial 37) 3 14 := ⟨by decide +kernel, rfl⟩
theorem kX5_border_14 : Dk mtX5_border 14 (.athrow) 1 15 := ⟨by decide +kernel, rfl⟩
theorem kX5_border_15 : Dk mtX5_border 15 (.iconst 0) 1 16 := ⟨by decide +kernel, rfl⟩
theorem kX5_border_16 : Dk mtX5_border 16 (.istore_n 2) 1 17 := ⟨by decide +kernel, rfl⟩
theorem kX5_border_17 : Dk mtX5_border 17 (.aload_n 0) 1 18 := ⟨by decide +kernel, rfl⟩
theorem kX5_border_18 : Dk mtX5_border 18 (.getfield 19) 3 21 := ⟨by decide +kernel, rfl⟩
theorem kX5_border_21 : Dk mtX5_border 21 (.iconst 0) 1 22 := ⟨by decide +kernel, rfl⟩
theorem kX5_border_22 : Dk mtX5_border 22 (.invokevirtual 151) 3 25 := ⟨by decide +kernel, rfl⟩
theorem kX5_border_25 : Dk mtX5_border 25 (.istore_n 3) 1 26 := ⟨by decide +kernel, rfl⟩
theorem kX5_border_26 : Dk mtX5_border 26 (.iconst 1) 1 27 := ⟨by decide +kernel, rfl⟩
theorem kX5_border_27 : Dk mtX5_border 27 (.istore 4) 2 29 := ⟨by decide +kernel, rfl⟩
theorem kX5_border_29 : Dk mtX5_border 29 (.iload 4) 2 31 := ⟨by decide +kernel, rfl⟩
theorem kX5_border_31 : Dk mtX5_border 31 (.sipush 200) 3 34 := ⟨by decide +kernel, rfl⟩
theorem kX5_border_34 : Dk mtX5_border 34 (.if_icmp .ge 40) 3 37 := ⟨by decide +kernel, rfl⟩
theorem kX5_border_37 : Dk mtX5_border 37 (.aload_n 0) 1 38 := ⟨by decide +kernel, rfl⟩
theorem kX5_border_38 : Dk mtX5_border 38 (.getfield 19) 3 41 := ⟨by decide +kernel, rfl⟩
theorem kX5_border_41 : Dk mtX5_border 41 (.iload 4) 2 43 := ⟨by decide +kernel, rfl⟩
theorem kX5_border_43 : Dk mtX5_border 43 (.invokevirtual 151) 3 46 := ⟨by decide +kernel, rfl⟩
theorem kX5_border_46 : Dk mtX5_border 46 (.istore 5) 2 48 := ⟨by decide +kernel, rfl⟩
theorem kX5_border_48 : Dk mtX5_border 48 (.iload 5) 2 50 := ⟨by decide +kernel, rfl⟩
theorem kX5_border_50 : Dk mtX5_border 50 (.iload_n 3) 1 51 := ⟨by decide +kernel, rfl⟩
theorem kX5_border_51 : Dk mtX5_border 51 (.if_icmp .eq 14) 3 54 := ⟨by decide +kernel, rfl⟩
theorem kX5_border_54 : Dk mtX5_border 54 (.iload_n 2) 1 55 := ⟨by decide +kernel, rfl⟩
theorem kX5_border_55 : Dk mtX5_border 55 (.iload_n 1) 1 56 := ⟨by decide +kernel, rfl⟩
theorem kX5_border_56 : Dk mtX5_border 56 (.if_icmp .ne 6) 3 59 := ⟨by decide +kernel, rfl⟩
theorem kX5_border_59 : Dk mtX5_border 59 (.iload 4) 2 61 := ⟨by decide +kernel, rfl⟩
theorem kX5_border_61 : Dk mtX5_border 61 (.ireturn) 1 62 := ⟨by decide +kernel, rfl⟩
theorem kX5_border_62 : Dk mtX5_border 62 (.iinc 2 1) 3 65 := ⟨by decide +kernel, rfl⟩
theorem kX5_border_65 : Dk mtX5_border 65 (.iload 5) 2 67 := ⟨by decide +kernel, rfl⟩
theorem kX5_border_67 : Dk mtX5_border 67 (.istore_n 3) 1 68 := ⟨by decide +kernel, rfl⟩
theorem kX5_border_68 : Dk mtX5_border 68 (.iinc 4 1) 3 71 := ⟨by decide +kernel, rfl⟩
theorem kX5_border_71 : Dk mtX5_border 71 (.goto (-42)) 3 74 := ⟨by decide +kernel, rfl⟩
theorem kX5_border_74 : Dk mtX5_border 74 (.iconst (-1)) 1 75 := ⟨by decide +kernel, rfl⟩
theorem kX5_border_75 : Dk mtX5_border 75 (.ireturn) 1 76 := ⟨by decide +kernel, rfl⟩
set_option maxHeartbeats 4000000 in
set_option maxRecDepth 100000 in
theorem cf_border {l : Launch} {w : Wd} {sg : Sg} (hWr : Wr w) (hl0 : l.stackTraces = false) (k : Int32) {x : Nat} {g : Gs} (hR : Rel sg (x + 4) g) (hI : Inv g) : MX l mtX5_border w [vR (some (5, 0, x)), vI k] sg (rX (K_border k) (fun r g2 => r = R_border g k ∧ g2 = sg)) (pY "java/lang/IllegalArgumentException" "java/lang/IllegalArgumentException" "java/lang/IllegalArgumentException" (K_border k) sg) := by
  refine MX_of hl0 [some (vR (some (5, 0, x))), some (vI k), none, none, none, none] rfl (Nat.le_of_ble_eq_true rfl) (by decide +kernel) ?_
  intro p_ e_ s_ m_ args_ below_ meth_ c_ hC hX hO
  refine V_iload_n hC kX5_border_0 rfl ?_
  refine V_if_ge hC 15 kX5_border_1 (by decide) (fun h1 => ?_) (fun h1 => ?_)
  · refine V_iconst hC (0) kX5_border_15 (by decide) ?_
    refine V_istore_n hC [some _, some _, some _, none, none, none] kX5_border_16 rfl (Nat.le_of_ble_eq_true rfl) ?_
    refine V_aload_n hC kX5_border_17 rfl ?_
    refine V_getR hC hWr 5 1 lfX5_19 kX5_border_18 (Nat.le_of_ble_eq_true rfl) (Nat.le_of_ble_eq_true rfl) rfl ?_
    refine V_iconst hC (0) kX5_border_21 (by decide) ?_
    refine V_cV_fI hC (cl_brightest hWr 0 ⟨by decide, by decide⟩ hR hI) mkX1_brightest lmX5_151 kX5_border_22 (Nat.le_of_ble_eq_true rfl) rfl rfl rfl (Nat.le_of_ble_eq_true rfl) ⟨(Nat.le_of_ble_eq_true rfl), (Nat.le_of_ble_eq_true rfl)⟩ ⟨rfl, rfl⟩ ⟨(Nat.le_of_ble_eq_true rfl), (Nat.le_of_ble_eq_true rfl)⟩ ?_
    refine V_istore_n hC [some _, some _, some _, some _, none, none] kX5_border_25 rfl (Nat.le_of_ble_eq_true rfl) ?_
    refine V_iconst hC (1) kX5_border_26 (by decide) ?_
    refine V_istore hC [some _, some _, some _, some _, some _, none] kX5_border_27 rfl (Nat.le_of_ble_eq_true rfl) ?_
    refine V_loop (fa_first (F_bdp g k) 199) (fun i => [some (vR (some (5, 0, x))), some (vI k), some (vI (k - F_left g k i)), some (vI (F_best g (nI i))), some (vI (nI (i + 1))), none]) (fun i => sg) (by show _ = [_, _, some (vI (k - k)), _, _, _]; rw [Int32.sub_self]; rfl) rfl ?_ (fun i hi ihi => ?_)
    · rcases first_dec (F_bdp g k) 199 with hN | ⟨hN, hq⟩
      · refine V_iload hC kX5_border_29 rfl ?_
        refine V_sipush hC (200) kX5_border_31 (by decide) ?_
        refine V_icmp_ge hC 74 kX5_border_34 (by decide) (fun h34 => ?_) (fun h34 => absurd h34 (not_not_intro (by rw [hN]; exact nI_lit rfl)))
        refine V_iconst hC (-1) kX5_border_74 (by decide) ?_
        refine V_iretiX hC rfl kX5_border_75 ⟨(Nat.le_of_ble_eq_true rfl), (Nat.le_of_ble_eq_true rfl)⟩ ?_
        exact ⟨_, by with_reducible rfl, if_neg (Int32.not_lt.mpr h1), (if_neg (by omega)).symm, rfl⟩
      · have hyes := of_decide_eq_true hq
        refine V_iload hC kX5_border_29 rfl ?_
        refine V_sipush hC (200) kX5_border_31 (by decide) ?_
        refine V_icmp_ge hC 74 kX5_border_34 (by decide) (fun h34 => absurd h34 (by exact nI_ge (a := (fa_first (F_bdp g k) 199) + 1) (b := 200) (by omega) (by decide))) (fun h34 => ?_)
        refine V_aload_n hC kX5_border_37 rfl ?_
        refine V_getR hC hWr 5 1 lfX5_19 kX5_border_38 (Nat.le_of_ble_eq_true rfl) (Nat.le_of_ble_eq_true rfl) rfl ?_
        refine V_iload hC kX5_border_41 rfl ?_
        refine V_cV_fI hC (cl_brightest hWr _ ⟨by rw [nI_toInt (by omega)]; omega, by rw [nI_toInt (by omega)]; omega⟩ hR hI) mkX1_brightest lmX5_151 kX5_border_43 (Nat.le_of_ble_eq_true rfl) rfl rfl rfl (Nat.le_of_ble_eq_true rfl) ⟨(Nat.le_of_ble_eq_true rfl), (Nat.le_of_ble_eq_true rfl)⟩ ⟨rfl, rfl⟩ ⟨(Nat.le_of_ble_eq_true rfl), (Nat.le_of_ble_eq_true rfl)⟩ ?_
        refine V_istore hC [some _, some _, some _, some _, some _, some _] kX5_border_46 rfl (Nat.le_of_ble_eq_true rfl) ?_
        refine V_iload hC kX5_border_48 rfl ?_
        refine V_iload_n hC kX5_border_50 rfl ?_
        refine V_icmp_eq hC 65 kX5_border_51 (by decide) (fun h51 => absurd h51 (fun z => hyes.1 (b01_0' (not_not_intro z)))) (fun h51 => ?_)
        refine V_iload_n hC kX5_border_54 rfl ?_
        refine V_iload_n hC kX5_border_55 rfl ?_
        refine V_icmp_ne hC 62 kX5_border_56 (by decide) (fun h56 => absurd h56 (not_not_intro (by rw [hyes.2]; exact sub0' k))) (fun h56 => ?_)
        refine V_iload hC kX5_border_59 rfl ?_
        refine V_iretiX hC rfl kX5_border_61 ⟨(Nat.le_of_ble_eq_true rfl), (Nat.le_of_ble_eq_true rfl)⟩ ?_
        exact ⟨_, by with_reducible rfl, if_neg (Int32.not_lt.mpr h1), (if_pos hN).symm, rfl⟩
    · have hno : ¬ (¬ F_bd g i = 0 ∧ F_left g k i = 0) := of_decide_eq_false (fa_first_no _ _ _ hi)
      have hi9 : i < 199 := Nat.lt_of_lt_of_le hi (fa_first_le _ _)
      refine V_iload hC kX5_border_29 rfl ?_
      refine V_sipush hC (200) kX5_border_31 (by decide) ?_
      refine V_icmp_ge hC 74 kX5_border_34 (by decide) (fun h34 => absurd h34 (by exact nI_ge (a := i + 1) (b := 200) (by omega) (by decide))) (fun h34 => ?_)
      refine V_aload_n hC kX5_border_37 rfl ?_
      refine V_getR hC hWr 5 1 lfX5_19 kX5_border_38 (Nat.le_of_ble_eq_true rfl) (Nat.le_of_ble_eq_true rfl) rfl ?_
      refine V_iload hC kX5_border_41 rfl ?_
      refine V_cV_fI hC (cl_brightest hWr _ ⟨by rw [nI_toInt (by omega)]; omega, by rw [nI_toInt (by omega)]; omega⟩ hR hI) mkX1_brightest lmX5_151 kX5_border_43 (Nat.le_of_ble_eq_true rfl) rfl rfl rfl (Nat.le_of_ble_eq_true rfl) ⟨(Nat.le_of_ble_eq_true rfl), (Nat.le_of_ble_eq_true rfl)⟩ ⟨rfl, rfl⟩ ⟨(Nat.le_of_ble_eq_true rfl), (Nat.le_of_ble_eq_true rfl)⟩ ?_
      refine V_istore hC [some _, some _, some _, some _, some _, some _] kX5_border_46 rfl (Nat.le_of_ble_eq_true rfl) ?_
      refine V_iload hC kX5_border_48 rfl ?_
      refine V_iload_n hC kX5_border_50 rfl ?_
      refine V_icmp_eq hC 65 kX5_border_51 (by decide) (fun h51 => ?_) (fun h51 => ?_)
      · have hb : F_bd g i = 0 := b01_0' (not_not_intro h51)
        refine V_iload hC kX5_border_65 rfl ?_
        refine V_istore_n hC [some _, some _, some _, some _, some _, some _] kX5_border_67 rfl (Nat.le_of_ble_eq_true rfl) ?_
        refine V_iinc hC (_ + 1) [some _, some _, some _, some _, some _, some _] kX5_border_68 rfl rfl rfl (Nat.le_of_ble_eq_true rfl) ?_
        refine V_goto hC 29 kX5_border_71 (by decide) ?_
        refine V_drop 5 [_, _, _, _, _, none] rfl ?_
        refine V_eq ?_ rfl ihi
        rw [F_left, hb, sub0', nI_succ (i + 1)]
      · have hb : F_bd g i = 1 := b01_1' h51
        refine V_iload_n hC kX5_border_54 rfl ?_
        refine V_iload_n hC kX5_border_55 rfl ?_
        refine V_icmp_ne hC 62 kX5_border_56 (by decide) (fun h56 => ?_) (fun h56 => absurd h56 (fun z => hno ⟨by rw [hb]; decide, left0 z⟩))
        refine V_iinc hC (_ + 1) [some _, some _, some _, some _, some _, some _] kX5_border_62 rfl rfl rfl (Nat.le_of_ble_eq_true rfl) ?_
        refine V_iload hC kX5_border_65 rfl ?_
        refine V_istore_n hC [some _, some _, some _, some _, some _, some _] kX5_border_67 rfl (Nat.le_of_ble_eq_true rfl) ?_
        refine V_iinc hC (_ + 1) [some _, some _, some _, some _, some _, some _] kX5_border_68 rfl rfl rfl (Nat.le_of_ble_eq_true rfl) ?_
        refine V_goto hC 29 kX5_border_71 (by decide) ?_
        refine V_drop 5 [_, _, _, _, _, none] rfl ?_
        refine V_eq ?_ rfl ihi
        rw [F_left, hb, ksub, nI_succ (i + 1)]
  · refine V_thW hC hX (cls := "java/lang/IllegalArgumentException") (text := "k is negative") thc1 (by decide +kernel) rfl kX5_border_4 kX5_border_7 kX5_border_8 kX5_border_11 kX5_border_14 ⟨(Nat.le_of_ble_eq_true rfl), (Nat.le_of_ble_eq_true rfl)⟩ ⟨(Nat.le_of_ble_eq_true rfl), (Nat.le_of_ble_eq_true rfl)⟩ ?_
    exact pY1 (if_pos (Int32.not_le.mp h1))
