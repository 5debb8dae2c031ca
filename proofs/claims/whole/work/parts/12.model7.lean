-- HOW ct_in fI
-- HOW ct_fails fI
-- HOW ct_of fI
-- HOW ct_ofBoat fI
-- HOW ct_layBoat fV
-- HOW ct_isLight fI
-- HOW ct_isBoat fI
-- HOW ct_isPlace fI
-- HOW ct_bright fI
-- HOW ct_worth fI
-- HOW ct_serves fI
-- HOW ct_best fI
-- HOW ct_sails fV
-- HOW ct_drops fV
-- HOW ct_wished fI
-- HOW ct_hands fV
-- HOW ct_wishes fV
-- HOW ct_finds fV
-- HOW ct_goesOn fV
-- HOW ct_goesTick fV
-- HOW ct_goesBy fI
-- HOW ct_putAside fV
-- HOW ct_takeBack fV
-- HOW ct_isLamp fI
-- HOW ct_addsLight fI
-- HOW ct_actsLight fI
-- HOW ct_addsBoat fI
-- HOW ct_actsBoat fI
-- HOW ct_actsSteer fI
-- HOW ct_canTalk fI
-- HOW ct_actsTalk fI
-- HOW ct_actsLean fI
-- HOW ct_actsDim fI
-- HOW ct_mostOf fI
-- HOW ct_isSetting fI
-- HOW ct_actsSet fI
-- HOW ct_actsTicks fI
-- HOW ct_boatsThat fI
-- HOW ct_servedBy fI
-- HOW ct_begins fV
-- HOW ct_tellsAbout fI
-- HOW ct_about fM
-- HOW ct_lightOf fM
-- HOW ct_boatOf fM
-- HOW ct_brightness fM
-- HOW ct_bestAt fM
-- HOW ct_setting fM
-- HOW ct_saves fV
-- HOW ct_light fM
-- HOW ct_boat fM
-- HOW ct_steer fM
-- HOW ct_talk fM
-- HOW ct_lean fM
-- HOW ct_dim fM
-- HOW ct_set fM
-- HOW ct_ticks fM
-- HOW ct_undo fM
-- HOW ct_save fM
-- HOW ct_restore fM
-- HOW ct_bringsBy fI
-- HOW ct_ifMargin fM
-- HOW ct_held fI
-- HOW ct_room fI
-- HOW ct_dark fI
-- HOW ct_turns fV
-- HOW ct_simulate fM
-- HOW ct_border fM
-- HOW ct_handedIn fM
-- HOW ct_bestMargin fM
/-! the reference: borders, when a boat is handed on, the best margin -/
def mtX6_border : Mt := (yX6_border, cX6_border, 5, (some .int), 4, 93, 0, 0)
theorem kX6_border_0 : Dk mtX6_border 0 (.aload_n 0) 1 1 := ⟨by decide +kernel, rfl⟩
theorem kX6_border_1 : Dk mtX6_border 1 (.iconst 0) 1 2 := ⟨by decide +kernel, rfl⟩
theorem kX6_border_2 : Dk mtX6_border 2 (.putfield 32) 3 5 := ⟨by decide +kernel, rfl⟩
theorem kX6_border_5 : Dk mtX6_border 5 (.iload_n 1) 1 6 := ⟨by decide +kernel, rfl⟩
theorem kX6_border_6 : Dk mtX6_border 6 (.ifCond .ge 9) 3 9 := ⟨by decide +kernel, rfl⟩
theorem kX6_border_9 : Dk mtX6_border 9 (.aload_n 0) 1 10 := ⟨by decide +kernel, rfl⟩
theorem kX6_border_10 : Dk mtX6_border 10 (.iconst 1) 1 11 := ⟨by decide +kernel, rfl⟩
theorem kX6_border_11 : Dk mtX6_border 11 (.invokevirtual 127) 3 14 := ⟨by decide +kernel, rfl⟩
theorem kX6_border_14 : Dk mtX6_border 14 (.ireturn) 1 15 := ⟨by decide +kernel, rfl⟩
theorem kX6_border_15 : Dk mtX6_border 15 (.iload_n 1) 1 16 := ⟨by decide +kernel, rfl⟩
theorem kX6_border_16 : Dk mtX6_border 16 (.istore_n 2) 1 17 := ⟨by decide +kernel, rfl⟩
theorem kX6_border_17 : Dk mtX6_border 17 (.iconst 1) 1 18 := ⟨by decide +kernel, rfl⟩
theorem kX6_border_18 : Dk mtX6_border 18 (.istore_n 3) 1 19 := ⟨by decide +kernel, rfl⟩
theorem kX6_border_19 : Dk mtX6_border 19 (.iload_n 3) 1 20 := ⟨by decide +kernel, rfl⟩
theorem kX6_border_20 : Dk mtX6_border 20 (.sipush 200) 3 23 := ⟨by decide +kernel, rfl⟩
theorem kX6_border_23 : Dk mtX6_border 23 (.if_icmp .ge 55) 3 26 := ⟨by decide +kernel, rfl⟩
theorem kX6_border_26 : Dk mtX6_border 26 (.aload_n 0) 1 27 := ⟨by decide +kernel, rfl⟩
theorem kX6_border_27 : Dk mtX6_border 27 (.iload_n 3) 1 28 := ⟨by decide +kernel, rfl⟩
theorem kX6_border_28 : Dk mtX6_border 28 (.invokevirtual 194) 3 31 := ⟨by decide +kernel, rfl⟩
theorem kX6_border_31 : Dk mtX6_border 31 (.aload_n 0) 1 32 := ⟨by decide +kernel, rfl⟩
theorem kX6_border_32 : Dk mtX6_border 32 (.iload_n 3) 1 33 := ⟨by decide +kernel, rfl⟩
theorem kX6_border_33 : Dk mtX6_border 33 (.iconst 1) 1 34 := ⟨by decide +kernel, rfl⟩
theorem kX6_border_34 : Dk mtX6_border 34 (.isub) 1 35 := ⟨by decide +kernel, rfl⟩
theorem kX6_border_35 : Dk mtX6_border 35 (.invokevirtual 194) 3 38 := ⟨by decide +kernel, rfl⟩
theorem kX6_border_38 : Dk mtX6_border 38 (.if_icmp .eq 7) 3 41 := ⟨by decide +kernel, rfl⟩
theorem kX6_border_41 : Dk mtX6_border 41 (.iconst 1) 1 42 := ⟨by decide +kernel, rfl⟩
theorem kX6_border_42 : Dk mtX6_border 42 (.goto 4) 3 45 := ⟨by decide +kernel, rfl⟩
theorem kX6_border_45 : Dk mtX6_border 45 (.iconst 0) 1 46 := ⟨by decide +kernel, rfl⟩
theorem kX6_border_46 : Dk mtX6_border 46 (.istore 4) 2 48 := ⟨by decide +kernel, rfl⟩
theorem kX6_border_48 : Dk mtX6_border 48 (.iload 4) 2 50 := ⟨by decide +kernel, rfl⟩
theorem kX6_border_50 : Dk mtX6_border 50 (.ifCond .eq 9) 3 53 := ⟨by decide +kernel, rfl⟩
theorem kX6_border_53 : Dk mtX6_border 53 (.iload_n 2) 1 54 := ⟨by decide +kernel, rfl⟩
theorem kX6_border_54 : Dk mtX6_border 54 (.ifCond .ne 5) 3 57 := ⟨by decide +kernel, rfl⟩
theorem kX6_border_57 : Dk mtX6_border 57 (.iload_n 3) 1 58 := ⟨by decide +kernel, rfl⟩
theorem kX6_border_58 : Dk mtX6_border 58 (.ireturn) 1 59 := ⟨by decide +kernel, rfl⟩
theorem kX6_border_59 : Dk mtX6_border 59 (.iload_n 2) 1 60 := ⟨by decide +kernel, rfl⟩
theorem kX6_border_60 : Dk mtX6_border 60 (.iload 4) 2 62 := ⟨by decide +kernel, rfl⟩
theorem kX6_border_62 : Dk mtX6_border 62 (.ifCond .eq 7) 3 65 := ⟨by decide +kernel, rfl⟩
theorem kX6_border_65 : Dk mtX6_border 65 (.iconst 1) 1 66 := ⟨by decide +kernel, rfl⟩
theorem kX6_border_66 : Dk mtX6_border 66 (.goto 4) 3 69 := ⟨by decide +kernel, rfl⟩
theorem kX6_border_69 : Dk mtX6_border 69 (.iconst 0) 1 70 := ⟨by decide +kernel, rfl⟩
theorem kX6_border_70 : Dk mtX6_border 70 (.isub) 1 71 := ⟨by decide +kernel, rfl⟩
theorem kX6_border_71 : Dk mtX6_border 71 (.istore_n 2) 1 72 := ⟨by decide +kernel, rfl⟩
theorem kX6_border_72 : Dk mtX6_border 72 (.iinc 3 1) 3 75 := ⟨by decide +kernel, rfl⟩
theorem kX6_border_75 : Dk mtX6_border 75 (.goto (-56)) 3 78 := ⟨by decide +kernel, rfl⟩
theorem kX6_border_78 : Dk mtX6_border 78 (.iconst (-1)) 1 79 := ⟨by decide +kernel, rfl⟩
theorem kX6_border_79 : Dk mtX6_border 79 (.ireturn) 1 80 := ⟨by decide +kernel, rfl⟩
set_option maxHeartbeats 4000000 in
set_option maxRecDepth 100000 in
theorem ct_border {l : Launch} {w : Wd} {sg : Sg} (hWr : Wr w) {mo : Nat} (k : Int32) (hI : Inv (sg (mo + 1))) : M l mtX6_border w [vR (some (6, 0, mo)), vI k] sg (fM mo sg (K_border k) (R_border (sg (mo + 1)) k) sg) := by
  refine M_of [some (vR (some (6, 0, mo))), some (vI k), none, none, none] rfl (Nat.le_of_ble_eq_true rfl) (by decide +kernel) ?_
  intro p_ e_ s_ m_ args_ below_ meth_ c_ hC hO
  refine V_aload_n hC kX6_border_0 rfl ?_
  refine V_iconst hC (0) kX6_border_1 (by decide) ?_
  refine V_putI hC 6 0 lfX6_32 kX6_border_2 (Nat.le_of_ble_eq_true rfl) (Nat.le_of_ble_eq_true rfl) rfl rfl ⟨rfl, rfl⟩ ?_
  refine V_nameS (fun sg0 e_sg0 => ?_)
  have hs1 : sg0 (mo + 1) = sg (mo + 1) := by rw [e_sg0]; exact upr_ne _ _ (by omega)
  have hs2 : sg0 (mo + 2) = sg (mo + 2) := by rw [e_sg0]; exact upr_ne _ _ (by omega)
  refine V_iload_n hC kX6_border_5 rfl ?_
  refine V_if_ge hC 15 kX6_border_6 (by decide) (fun h6 => ?_) (fun h6 => ?_)
  · refine V_iload_n hC kX6_border_15 rfl ?_
    refine V_istore_n hC [some _, some _, some _, none, none] kX6_border_16 rfl (Nat.le_of_ble_eq_true rfl) ?_
    refine V_iconst hC (1) kX6_border_17 (by decide) ?_
    refine V_istore_n hC [some _, some _, some _, some _, none] kX6_border_18 rfl (Nat.le_of_ble_eq_true rfl) ?_
    refine V_loop (fa_first (F_bdp (sg (mo + 1)) k) 199) (fun i => [some (vR (some (6, 0, mo))), some (vI k), some (vI (F_left (sg (mo + 1)) k i)), some (vI (nI (i + 1))), none]) (fun i => sg0) rfl rfl ?_ (fun i hi ihi => ?_)
    · rcases first_dec (F_bdp (sg (mo + 1)) k) 199 with hN | ⟨hN, hq⟩
      · refine V_iload_n hC kX6_border_19 rfl ?_
        refine V_sipush hC (200) kX6_border_20 (by decide) ?_
        refine V_icmp_ge hC 78 kX6_border_23 (by decide) (fun h23 => ?_) (fun h23 => absurd h23 (not_not_intro (by rw [hN]; exact nI_lit rfl)))
        refine V_iconst hC (-1) kX6_border_78 (by decide) ?_
        refine V_ireti hC rfl kX6_border_79 ?_
        exact fM_ok (by rw [K_border, if_neg (Int32.not_lt.mpr h6)]) (by rw [R_border, if_neg (by omega)]) e_sg0
      · refine V_iload_n hC kX6_border_19 rfl ?_
        refine V_sipush hC (200) kX6_border_20 (by decide) ?_
        refine V_icmp_ge hC 78 kX6_border_23 (by decide) (fun h23 => absurd h23 (by exact nI_ge (a := fa_first (F_bdp (sg (mo + 1)) k) 199 + 1) (b := 200) (by omega) (by decide))) (fun h23 => ?_)
        refine V_join 46 (F_bd (sg (mo + 1)) (fa_first (F_bdp (sg (mo + 1)) k) 199)) ?_ (fun j46 => ?_)
        · have hyes := of_decide_eq_true hq
          refine V_nameI (fun is1 e_is1 => ?_)
          refine V_istore hC [some _, some _, some _, some _, some _] kX6_border_46 rfl (Nat.le_of_ble_eq_true rfl) ?_
          refine V_iload hC kX6_border_48 rfl ?_
          refine V_if_eq hC 59 kX6_border_50 (by decide) (fun h50 => absurd h50 (by rw [e_is1]; exact hyes.1)) (fun h50 => ?_)
          refine V_iload_n hC kX6_border_53 rfl ?_
          refine V_if_ne hC 59 kX6_border_54 (by decide) (fun h54 => absurd h54 (not_not_intro hyes.2)) (fun h54 => ?_)
          refine V_iload_n hC kX6_border_57 rfl ?_
          refine V_ireti hC rfl kX6_border_58 ?_
          exact fM_ok (by rw [K_border, if_neg (Int32.not_lt.mpr h6)]) (by rw [R_border, if_pos hN]) e_sg0
        · refine V_aload_n hC kX6_border_26 rfl ?_
          refine V_iload_n hC kX6_border_27 rfl ?_
          refine V_cV_fI hC (ct_best hWr _ (by rw [hs1]; exact hI.hc4) (fun n hn => by rw [hs1] at hn ⊢; exact hI.ne hn)) mkX6_best lmX6_194 kX6_border_28 (Nat.le_of_ble_eq_true rfl) rfl rfl rfl (Nat.le_of_ble_eq_true rfl) ⟨(Nat.le_of_ble_eq_true rfl), (Nat.le_of_ble_eq_true rfl)⟩ ⟨rfl, rfl⟩ ⟨(Nat.le_of_ble_eq_true rfl), (Nat.le_of_ble_eq_true rfl)⟩ ?_
          refine V_aload_n hC kX6_border_31 rfl ?_
          refine V_iload_n hC kX6_border_32 rfl ?_
          refine V_iconst hC (1) kX6_border_33 (by decide) ?_
          refine V_isub hC kX6_border_34 ?_
          refine V_cV_fI hC (ct_best hWr _ (by rw [hs1]; exact hI.hc4) (fun n hn => by rw [hs1] at hn ⊢; exact hI.ne hn)) mkX6_best lmX6_194 kX6_border_35 (Nat.le_of_ble_eq_true rfl) rfl rfl rfl (Nat.le_of_ble_eq_true rfl) ⟨(Nat.le_of_ble_eq_true rfl), (Nat.le_of_ble_eq_true rfl)⟩ ⟨rfl, rfl⟩ ⟨(Nat.le_of_ble_eq_true rfl), (Nat.le_of_ble_eq_true rfl)⟩ ?_
          refine V_icmp_eq hC 45 kX6_border_38 (by decide) (fun h38 => ?_) (fun h38 => ?_)
          · refine V_iconst hC (0) kX6_border_45 (by decide) ?_
            exact j46 _ ((by rw [hs1, nI_pred] at h38; exact (b01_f (not_not_intro h38)).symm))
          · refine V_iconst hC (1) kX6_border_41 (by decide) ?_
            refine V_goto hC 46 kX6_border_42 (by decide) ?_
            exact j46 _ ((by rw [hs1, nI_pred] at h38; exact (b01_t h38).symm))
    · have hno : ¬ (¬ F_bd (sg (mo + 1)) i = 0 ∧ F_left (sg (mo + 1)) k i = 0) := of_decide_eq_false (fa_first_no _ _ _ hi)
      have hi9 : i < 199 := Nat.lt_of_lt_of_le hi (fa_first_le _ _)
      refine V_iload_n hC kX6_border_19 rfl ?_
      refine V_sipush hC (200) kX6_border_20 (by decide) ?_
      refine V_icmp_ge hC 78 kX6_border_23 (by decide) (fun h23 => absurd h23 (by exact nI_ge (a := i + 1) (b := 200) (by omega) (by decide))) (fun h23 => ?_)
      refine V_join 46 (F_bd (sg (mo + 1)) i) ?_ (fun j46 => ?_)
      · refine V_nameI (fun is1 e_is1 => ?_)
        refine V_istore hC [some _, some _, some _, some _, some _] kX6_border_46 rfl (Nat.le_of_ble_eq_true rfl) ?_
        refine V_iload hC kX6_border_48 rfl ?_
        refine V_if_eq hC 59 kX6_border_50 (by decide) (fun h50 => ?_) (fun h50 => ?_)
        · refine V_iload_n hC kX6_border_59 rfl ?_
          refine V_join 70 (is1) ?_ (fun j70 => ?_)
          · refine V_isub hC kX6_border_70 ?_
            refine V_istore_n hC [some _, some _, some _, some _, some _] kX6_border_71 rfl (Nat.le_of_ble_eq_true rfl) ?_
            refine V_iinc hC (_ + 1) [some _, some _, some _, some _, some _] kX6_border_72 rfl rfl rfl (Nat.le_of_ble_eq_true rfl) ?_
            refine V_goto hC 19 kX6_border_75 (by decide) ?_
            refine V_drop 4 [_, _, _, _, none] rfl ?_
            refine V_eq ?_ rfl ihi
            subst e_is1
            simp only [F_left, nI_succ]
          · refine V_iload hC kX6_border_60 rfl ?_
            refine V_if_eq hC 69 kX6_border_62 (by decide) (fun h62 => ?_) (fun h62 => ?_)
            · refine V_iconst hC (0) kX6_border_69 (by decide) ?_
              exact j70 _ (h62.symm)
            · refine V_iconst hC (1) kX6_border_65 (by decide) ?_
              refine V_goto hC 70 kX6_border_66 (by decide) ?_
              exact j70 _ (b01_1 (show is1 = b01 _ from e_is1) h62)
        · refine V_iload_n hC kX6_border_53 rfl ?_
          refine V_if_ne hC 59 kX6_border_54 (by decide) (fun h54 => ?_) (fun h54 => absurd h54 (fun z => hno ⟨e_is1 ▸ h50, z⟩))
          refine V_iload_n hC kX6_border_59 rfl ?_
          refine V_join 70 (is1) ?_ (fun j70 => ?_)
          · refine V_isub hC kX6_border_70 ?_
            refine V_istore_n hC [some _, some _, some _, some _, some _] kX6_border_71 rfl (Nat.le_of_ble_eq_true rfl) ?_
            refine V_iinc hC (_ + 1) [some _, some _, some _, some _, some _] kX6_border_72 rfl rfl rfl (Nat.le_of_ble_eq_true rfl) ?_
            refine V_goto hC 19 kX6_border_75 (by decide) ?_
            refine V_drop 4 [_, _, _, _, none] rfl ?_
            refine V_eq ?_ rfl ihi
            subst e_is1
            simp only [F_left, nI_succ]
          · refine V_iload hC kX6_border_60 rfl ?_
            refine V_if_eq hC 69 kX6_border_62 (by decide) (fun h62 => ?_) (fun h62 => ?_)
            · refine V_iconst hC (0) kX6_border_69 (by decide) ?_
              exact j70 _ (h62.symm)
            · refine V_iconst hC (1) kX6_border_65 (by decide) ?_
              refine V_goto hC 70 kX6_border_66 (by decide) ?_
              exact j70 _ (b01_1 (show is1 = b01 _ from e_is1) h62)
      · refine V_aload_n hC kX6_border_26 rfl ?_
        refine V_iload_n hC kX6_border_27 rfl ?_
        refine V_cV_fI hC (ct_best hWr _ (by rw [hs1]; exact hI.hc4) (fun n hn => by rw [hs1] at hn ⊢; exact hI.ne hn)) mkX6_best lmX6_194 kX6_border_28 (Nat.le_of_ble_eq_true rfl) rfl rfl rfl (Nat.le_of_ble_eq_true rfl) ⟨(Nat.le_of_ble_eq_true rfl), (Nat.le_of_ble_eq_true rfl)⟩ ⟨rfl, rfl⟩ ⟨(Nat.le_of_ble_eq_true rfl), (Nat.le_of_ble_eq_true rfl)⟩ ?_
        refine V_aload_n hC kX6_border_31 rfl ?_
        refine V_iload_n hC kX6_border_32 rfl ?_
        refine V_iconst hC (1) kX6_border_33 (by decide) ?_
        refine V_isub hC kX6_border_34 ?_
        refine V_cV_fI hC (ct_best hWr _ (by rw [hs1]; exact hI.hc4) (fun n hn => by rw [hs1] at hn ⊢; exact hI.ne hn)) mkX6_best lmX6_194 kX6_border_35 (Nat.le_of_ble_eq_true rfl) rfl rfl rfl (Nat.le_of_ble_eq_true rfl) ⟨(Nat.le_of_ble_eq_true rfl), (Nat.le_of_ble_eq_true rfl)⟩ ⟨rfl, rfl⟩ ⟨(Nat.le_of_ble_eq_true rfl), (Nat.le_of_ble_eq_true rfl)⟩ ?_
        refine V_icmp_eq hC 45 kX6_border_38 (by decide) (fun h38 => ?_) (fun h38 => ?_)
        · refine V_iconst hC (0) kX6_border_45 (by decide) ?_
          exact j46 _ ((by rw [hs1, nI_pred] at h38; exact (b01_f (not_not_intro h38)).symm))
        · refine V_iconst hC (1) kX6_border_41 (by decide) ?_
          refine V_goto hC 46 kX6_border_42 (by decide) ?_
          exact j46 _ ((by rw [hs1, nI_pred] at h38; exact (b01_t h38).symm))
  · refine V_aload_n hC kX6_border_9 rfl ?_
    refine V_iconst hC (1) kX6_border_10 (by decide) ?_
    refine V_cV_fI hC (ct_fails hWr 1) mkX6_fails lmX6_127 kX6_border_11 (Nat.le_of_ble_eq_true rfl) rfl rfl rfl (Nat.le_of_ble_eq_true rfl) ⟨(Nat.le_of_ble_eq_true rfl), (Nat.le_of_ble_eq_true rfl)⟩ ⟨rfl, rfl⟩ ⟨(Nat.le_of_ble_eq_true rfl), (Nat.le_of_ble_eq_true rfl)⟩ ?_
    refine V_ireti hC rfl kX6_border_14 ?_
    exact fM_no 1 (by rw [K_border, if_pos (Int32.not_le.mp h6)]) (by decide) (by rw [e_sg0, ups_ups])
def mtX6_handedIn : Mt := (yX6_handedIn, cX6_handedIn, 7, (some .int), 7, 162, 0, 0)
theorem kX6_handedIn_0 : Dk mtX6_handedIn 0 (.aload_n 0) 1 1 := ⟨by decide +kernel, rfl⟩
theorem kX6_handedIn_1 : Dk mtX6_handedIn 1 (.iconst 0) 1 2 := ⟨by decide +kernel, rfl⟩
theorem kX6_handedIn_2 : Dk mtX6_handedIn 2 (.putfield 32) 3 5 := ⟨by decide +kernel, rfl⟩
theorem kX6_handedIn_5 : Dk mtX6_handedIn 5 (.aload_n 0) 1 6 := ⟨by decide +kernel, rfl⟩
theorem kX6_handedIn_6 : Dk mtX6_handedIn 6 (.iload_n 1) 1 7 := ⟨by decide +kernel, rfl⟩
theorem kX6_handedIn_7 : Dk mtX6_handedIn 7 (.invokevirtual 108) 3 10 := ⟨by decide +kernel, rfl⟩
theorem kX6_handedIn_10 : Dk mtX6_handedIn 10 (.ifCond .ne 9) 3 13 := ⟨by decide +kernel, rfl⟩
theorem kX6_handedIn_13 : Dk mtX6_handedIn 13 (.aload_n 0) 1 14 := ⟨by decide +kernel, rfl⟩
theorem kX6_handedIn_14 : Dk mtX6_handedIn 14 (.iconst 1) 1 15 := ⟨by decide +kernel, rfl⟩
theorem kX6_handedIn_15 : Dk mtX6_handedIn 15 (.invokevirtual 127) 3 18 := ⟨by decide +kernel, rfl⟩
theorem kX6_handedIn_18 : Dk mtX6_handedIn 18 (.ireturn) 1 19 := ⟨by decide +kernel, rfl⟩
theorem kX6_handedIn_19 : Dk mtX6_handedIn 19 (.iload_n 2) 1 20 := ⟨by decide +kernel, rfl⟩
theorem kX6_handedIn_20 : Dk mtX6_handedIn 20 (.iconst 0) 1 21 := ⟨by decide +kernel, rfl⟩
theorem kX6_handedIn_21 : Dk mtX6_handedIn 21 (.iconst 2) 1 22 := ⟨by decide +kernel, rfl⟩
theorem kX6_handedIn_22 : Dk mtX6_handedIn 22 (.invokestatic 39) 3 25 := ⟨by decide +kernel, rfl⟩
theorem kX6_handedIn_25 : Dk mtX6_handedIn 25 (.ifCond .ne 9) 3 28 := ⟨by decide +kernel, rfl⟩
theorem kX6_handedIn_28 : Dk mtX6_handedIn 28 (.aload_n 0) 1 29 := ⟨by decide +kernel, rfl⟩
theorem kX6_handedIn_29 : Dk mtX6_handedIn 29 (.iconst 2) 1 30 := ⟨by decide +kernel, rfl⟩
theorem kX6_handedIn_30 : Dk mtX6_handedIn 30 (.invokevirtual 127) 3 33 := ⟨by decide +kernel, rfl⟩
theorem kX6_handedIn_33 : Dk mtX6_handedIn 33 (.ireturn) 1 34 := ⟨by decide +kernel, rfl⟩
theorem kX6_handedIn_34 : Dk mtX6_handedIn 34 (.aload_n 0) 1 35 := ⟨by decide +kernel, rfl⟩
theorem kX6_handedIn_35 : Dk mtX6_handedIn 35 (.invokevirtual 206) 3 38 := ⟨by decide +kernel, rfl⟩
theorem kX6_handedIn_38 : Dk mtX6_handedIn 38 (.aload_n 0) 1 39 := ⟨by decide +kernel, rfl⟩
theorem kX6_handedIn_39 : Dk mtX6_handedIn 39 (.iload_n 1) 1 40 := ⟨by decide +kernel, rfl⟩
theorem kX6_handedIn_40 : Dk mtX6_handedIn 40 (.bipush 7) 2 42 := ⟨by decide +kernel, rfl⟩
theorem kX6_handedIn_42 : Dk mtX6_handedIn 42 (.invokevirtual 53) 3 45 := ⟨by decide +kernel, rfl⟩
theorem kX6_handedIn_45 : Dk mtX6_handedIn 45 (.istore_n 3) 1 46 := ⟨by decide +kernel, rfl⟩
theorem kX6_handedIn_46 : Dk mtX6_handedIn 46 (.iconst 0) 1 47 := ⟨by decide +kernel, rfl⟩
theorem kX6_handedIn_47 : Dk mtX6_handedIn 47 (.istore 4) 2 49 := ⟨by decide +kernel, rfl⟩
theorem kX6_handedIn_49 : Dk mtX6_handedIn 49 (.iload 4) 2 51 := ⟨by decide +kernel, rfl⟩
theorem kX6_handedIn_51 : Dk mtX6_handedIn 51 (.sipush 200) 3 54 := ⟨by decide +kernel, rfl⟩
theorem kX6_handedIn_54 : Dk mtX6_handedIn 54 (.if_icmp .ge 24) 3 57 := ⟨by decide +kernel, rfl⟩
theorem kX6_handedIn_57 : Dk mtX6_handedIn 57 (.aload_n 0) 1 58 := ⟨by decide +kernel, rfl⟩
theorem kX6_handedIn_58 : Dk mtX6_handedIn 58 (.iload_n 1) 1 59 := ⟨by decide +kernel, rfl⟩
theorem kX6_handedIn_59 : Dk mtX6_handedIn 59 (.bipush 7) 2 61 := ⟨by decide +kernel, rfl⟩
theorem kX6_handedIn_61 : Dk mtX6_handedIn 61 (.invokevirtual 53) 3 64 := ⟨by decide +kernel, rfl⟩
theorem kX6_handedIn_64 : Dk mtX6_handedIn 64 (.iload_n 3) 1 65 := ⟨by decide +kernel, rfl⟩
theorem kX6_handedIn_65 : Dk mtX6_handedIn 65 (.if_icmp .ne 13) 3 68 := ⟨by decide +kernel, rfl⟩
theorem kX6_handedIn_68 : Dk mtX6_handedIn 68 (.aload_n 0) 1 69 := ⟨by decide +kernel, rfl⟩
theorem kX6_handedIn_69 : Dk mtX6_handedIn 69 (.invokevirtual 94) 3 72 := ⟨by decide +kernel, rfl⟩
theorem kX6_handedIn_72 : Dk mtX6_handedIn 72 (.iinc 4 1) 3 75 := ⟨by decide +kernel, rfl⟩
theorem kX6_handedIn_75 : Dk mtX6_handedIn 75 (.goto (-26)) 3 78 := ⟨by decide +kernel, rfl⟩
theorem kX6_handedIn_78 : Dk mtX6_handedIn 78 (.aload_n 0) 1 79 := ⟨by decide +kernel, rfl⟩
theorem kX6_handedIn_79 : Dk mtX6_handedIn 79 (.iload_n 1) 1 80 := ⟨by decide +kernel, rfl⟩
theorem kX6_handedIn_80 : Dk mtX6_handedIn 80 (.bipush 7) 2 82 := ⟨by decide +kernel, rfl⟩
theorem kX6_handedIn_82 : Dk mtX6_handedIn 82 (.invokevirtual 53) 3 85 := ⟨by decide +kernel, rfl⟩
theorem kX6_handedIn_85 : Dk mtX6_handedIn 85 (.iload_n 3) 1 86 := ⟨by decide +kernel, rfl⟩
theorem kX6_handedIn_86 : Dk mtX6_handedIn 86 (.if_icmp .le 7) 3 89 := ⟨by decide +kernel, rfl⟩
theorem kX6_handedIn_89 : Dk mtX6_handedIn 89 (.iconst 1) 1 90 := ⟨by decide +kernel, rfl⟩
theorem kX6_handedIn_90 : Dk mtX6_handedIn 90 (.goto 4) 3 93 := ⟨by decide +kernel, rfl⟩
theorem kX6_handedIn_93 : Dk mtX6_handedIn 93 (.iconst 0) 1 94 := ⟨by decide +kernel, rfl⟩
theorem kX6_handedIn_94 : Dk mtX6_handedIn 94 (.istore 5) 2 96 := ⟨by decide +kernel, rfl⟩
theorem kX6_handedIn_96 : Dk mtX6_handedIn 96 (.iload 5) 2 98 := ⟨by decide +kernel, rfl⟩
theorem kX6_handedIn_98 : Dk mtX6_handedIn 98 (.ifCond .ne 7) 3 101 := ⟨by decide +kernel, rfl⟩
theorem kX6_handedIn_101 : Dk mtX6_handedIn 101 (.iconst (-1)) 1 102 := ⟨by decide +kernel, rfl⟩
theorem kX6_handedIn_102 : Dk mtX6_handedIn 102 (.goto 34) 3 105 := ⟨by decide +kernel, rfl⟩
theorem kX6_handedIn_105 : Dk mtX6_handedIn 105 (.iload_n 2) 1 106 := ⟨by decide +kernel, rfl⟩
theorem kX6_handedIn_106 : Dk mtX6_handedIn 106 (.ifCond .ne 8) 3 109 := ⟨by decide +kernel, rfl⟩
theorem kX6_handedIn_109 : Dk mtX6_handedIn 109 (.iload 4) 2 111 := ⟨by decide +kernel, rfl⟩
theorem kX6_handedIn_111 : Dk mtX6_handedIn 111 (.goto 25) 3 114 := ⟨by decide +kernel, rfl⟩
theorem kX6_handedIn_114 : Dk mtX6_handedIn 114 (.iload_n 2) 1 115 := ⟨by decide +kernel, rfl⟩
theorem kX6_handedIn_115 : Dk mtX6_handedIn 115 (.iconst 1) 1 116 := ⟨by decide +kernel, rfl⟩
theorem kX6_handedIn_116 : Dk mtX6_handedIn 116 (.if_icmp .ne 14) 3 119 := ⟨by decide +kernel, rfl⟩
theorem kX6_handedIn_119 : Dk mtX6_handedIn 119 (.aload_n 0) 1 120 := ⟨by decide +kernel, rfl⟩
theorem kX6_handedIn_120 : Dk mtX6_handedIn 120 (.iload_n 1) 1 121 := ⟨by decide +kernel, rfl⟩
theorem kX6_handedIn_121 : Dk mtX6_handedIn 121 (.iconst 2) 1 122 := ⟨by decide +kernel, rfl⟩
theorem kX6_handedIn_122 : Dk mtX6_handedIn 122 (.invokevirtual 53) 3 125 := ⟨by decide +kernel, rfl⟩
theorem kX6_handedIn_125 : Dk mtX6_handedIn 125 (.iconst 1) 1 126 := ⟨by decide +kernel, rfl⟩
theorem kX6_handedIn_126 : Dk mtX6_handedIn 126 (.isub) 1 127 := ⟨by decide +kernel, rfl⟩
theorem kX6_handedIn_127 : Dk mtX6_handedIn 127 (.goto 9) 3 130 := ⟨by decide +kernel, rfl⟩
theorem kX6_handedIn_130 : Dk mtX6_handedIn 130 (.aload_n 0) 1 131 := ⟨by decide +kernel, rfl⟩
theorem kX6_handedIn_131 : Dk mtX6_handedIn 131 (.iload_n 1) 1 132 := ⟨by decide +kernel, rfl⟩
theorem kX6_handedIn_132 : Dk mtX6_handedIn 132 (.iconst 0) 1 133 := ⟨by decide +kernel, rfl⟩
theorem kX6_handedIn_133 : Dk mtX6_handedIn 133 (.invokevirtual 53) 3 136 := ⟨by decide +kernel, rfl⟩
theorem kX6_handedIn_136 : Dk mtX6_handedIn 136 (.istore 6) 2 138 := ⟨by decide +kernel, rfl⟩
theorem kX6_handedIn_138 : Dk mtX6_handedIn 138 (.aload_n 0) 1 139 := ⟨by decide +kernel, rfl⟩
theorem kX6_handedIn_139 : Dk mtX6_handedIn 139 (.invokevirtual 209) 3 142 := ⟨by decide +kernel, rfl⟩
theorem kX6_handedIn_142 : Dk mtX6_handedIn 142 (.iload 6) 2 144 := ⟨by decide +kernel, rfl⟩
theorem kX6_handedIn_144 : Dk mtX6_handedIn 144 (.ireturn) 1 145 := ⟨by decide +kernel, rfl⟩
set_option maxHeartbeats 4000000 in
set_option maxRecDepth 100000 in
theorem ct_handedIn {l : Launch} {w : Wd} {sg : Sg} (hWr : Wr w) {mo : Nat} (b a : Int32) (hI : Inv (sg (mo + 1))) : M l mtX6_handedIn w [vR (some (6, 0, mo)), vI b, vI a] sg (fM mo sg (K_handedIn (sg (mo + 1)) b a) (R_handedIn (sg (mo + 1)) b a) (G_aside sg mo)) := by
  refine M_of [some (vR (some (6, 0, mo))), some (vI b), some (vI a), none, none, none, none] rfl (Nat.le_of_ble_eq_true rfl) (by decide +kernel) ?_
  intro p_ e_ s_ m_ args_ below_ meth_ c_ hC hO
  refine V_aload_n hC kX6_handedIn_0 rfl ?_
  refine V_iconst hC (0) kX6_handedIn_1 (by decide) ?_
  refine V_putI hC 6 0 lfX6_32 kX6_handedIn_2 (Nat.le_of_ble_eq_true rfl) (Nat.le_of_ble_eq_true rfl) rfl rfl ⟨rfl, rfl⟩ ?_
  refine V_nameS (fun sg0 e_sg0 => ?_)
  have hs1 : sg0 (mo + 1) = sg (mo + 1) := by rw [e_sg0]; exact upr_ne _ _ (by omega)
  have hs2 : sg0 (mo + 2) = sg (mo + 2) := by rw [e_sg0]; exact upr_ne _ _ (by omega)
  refine V_aload_n hC kX6_handedIn_5 rfl ?_
  refine V_iload_n hC kX6_handedIn_6 rfl ?_
  refine V_cV_fI hC (ct_isBoat hWr b) mkX6_isBoat lmX6_108 kX6_handedIn_7 (Nat.le_of_ble_eq_true rfl) rfl rfl rfl (Nat.le_of_ble_eq_true rfl) ⟨(Nat.le_of_ble_eq_true rfl), (Nat.le_of_ble_eq_true rfl)⟩ ⟨rfl, rfl⟩ ⟨(Nat.le_of_ble_eq_true rfl), (Nat.le_of_ble_eq_true rfl)⟩ ?_
  refine V_if_ne hC 19 kX6_handedIn_10 (by decide) (fun h10 => ?_) (fun h10 => ?_)
  · refine V_iload_n hC kX6_handedIn_19 rfl ?_
    refine V_iconst hC (0) kX6_handedIn_20 (by decide) ?_
    refine V_iconst hC (2) kX6_handedIn_21 (by decide) ?_
    refine V_cS_fI hC (ct_in hWr _ _ _) mkX6_in lmX6_39 kX6_handedIn_22 rfl rfl (Nat.le_of_ble_eq_true rfl) ⟨(Nat.le_of_ble_eq_true rfl), (Nat.le_of_ble_eq_true rfl)⟩ ⟨rfl, rfl⟩ ⟨(Nat.le_of_ble_eq_true rfl), (Nat.le_of_ble_eq_true rfl)⟩ ?_
    refine V_if_ne hC 34 kX6_handedIn_25 (by decide) (fun h25 => ?_) (fun h25 => ?_)
    · have hb := b01n.mp (hs1 ▸ h10)
      have hb8 := vpB hI.hc5 hb
      have hw := b01n.mp h25
      refine V_aload_n hC kX6_handedIn_34 rfl ?_
      refine V_cV_fV hC (ct_putAside hWr) mkX6_putAside lmX6_206 kX6_handedIn_35 (Nat.le_of_ble_eq_true rfl) rfl rfl rfl (Nat.le_of_ble_eq_true rfl) ⟨(Nat.le_of_ble_eq_true rfl), (Nat.le_of_ble_eq_true rfl)⟩ ⟨rfl, rfl⟩ ⟨(Nat.le_of_ble_eq_true rfl), (Nat.le_of_ble_eq_true rfl)⟩ ?_
      have ha1 : G_aside sg0 mo (mo + 1) = sg (mo + 1) := (aside_1 sg0 mo).trans hs1
      refine V_canon (G_aside sg0 mo) (by unfold G_aside; with_reducible rfl) ?_
      refine V_aload_n hC kX6_handedIn_38 rfl ?_
      refine V_iload_n hC kX6_handedIn_39 rfl ?_
      refine V_bipush hC (7) kX6_handedIn_40 (by decide) ?_
      refine V_cV_fI hC (ct_ofBoat hWr b 7 hb8 (vp_lit rfl)) mkX6_ofBoat lmX6_53 kX6_handedIn_42 (Nat.le_of_ble_eq_true rfl) rfl rfl rfl (Nat.le_of_ble_eq_true rfl) ⟨(Nat.le_of_ble_eq_true rfl), (Nat.le_of_ble_eq_true rfl)⟩ ⟨rfl, rfl⟩ ⟨(Nat.le_of_ble_eq_true rfl), (Nat.le_of_ble_eq_true rfl)⟩ ?_
      refine V_nameI (fun often e_often => ?_)
      refine V_istore_n hC [some _, some _, some _, some _, none, none, none] kX6_handedIn_45 rfl (Nat.le_of_ble_eq_true rfl) ?_
      rw [ha1] at e_often
      refine V_iconst hC (0) kX6_handedIn_46 (by decide) ?_
      refine V_istore hC [some _, some _, some _, some _, some _, none, none] kX6_handedIn_47 rfl (Nat.le_of_ble_eq_true rfl) ?_
      refine V_canon (upr (G_aside sg0 mo) (mo + 1) (F_ticks (sg (mo + 1)) 0)) (by rw [F_ticks, ← ha1, upr_self]) ?_
      refine V_loop (F_hN (sg (mo + 1)) b) (fun i => [some (vR (some (6, 0, mo))), some (vI b), some (vI a), some (vI often), some (vI (nI i)), none, none]) (fun i => upr (G_aside sg0 mo) (mo + 1) (F_ticks (sg (mo + 1)) i)) rfl rfl ?_ (fun i hi ihi => ?_)
      · rcases first_dec (F_hp (sg (mo + 1)) b) 200 with hN | ⟨hN, hq⟩
        · refine V_iload hC kX6_handedIn_49 rfl ?_
          refine V_sipush hC (200) kX6_handedIn_51 (by decide) ?_
          refine V_icmp_ge hC 78 kX6_handedIn_54 (by decide) (fun h54 => ?_) (fun h54 => absurd h54 (not_not_intro (by rw [show F_hN (sg (mo + 1)) b = 200 from hN]; exact nI_lit rfl)))
          refine V_join 94 (b01 (gB (sg (mo + 1)) b 7 < gB (F_ticks (sg (mo + 1)) (F_hN (sg (mo + 1)) b)) b 7)) ?_ (fun j94 => ?_)
          · refine V_nameI (fun is1 e_is1 => ?_)
            refine V_istore hC [some _, some _, some _, some _, some _, some _, none] kX6_handedIn_94 rfl (Nat.le_of_ble_eq_true rfl) ?_
            refine V_join 136 (R_handedIn (sg (mo + 1)) b a) ?_ (fun j136 => ?_)
            · refine V_nameI (fun its e_its => ?_)
              refine V_istore hC [some _, some _, some _, some _, some _, some _, some _] kX6_handedIn_136 rfl (Nat.le_of_ble_eq_true rfl) ?_
              refine V_aload_n hC kX6_handedIn_138 rfl ?_
              refine V_cV_fV hC (ct_takeBack hWr) mkX6_takeBack lmX6_209 kX6_handedIn_139 (Nat.le_of_ble_eq_true rfl) rfl rfl rfl (Nat.le_of_ble_eq_true rfl) ⟨(Nat.le_of_ble_eq_true rfl), (Nat.le_of_ble_eq_true rfl)⟩ ⟨rfl, rfl⟩ ⟨(Nat.le_of_ble_eq_true rfl), (Nat.le_of_ble_eq_true rfl)⟩ ?_
              refine V_iload hC kX6_handedIn_142 rfl ?_
              refine V_ireti hC rfl kX6_handedIn_144 ?_
              refine fM_ok (by rw [K_handedIn, if_pos hb, if_pos hw]) e_its ?_
              simp only [upr_at, upr_upr]
              have h2 : upr (G_aside sg0 mo) (mo + 1) (F_ticks (sg (mo + 1)) (F_hN (sg (mo + 1)) b)) (mo + 2) = G_aside sg0 mo (mo + 2) := upr_ne _ _ (by omega)
              have hb2 : cpy (G_aside sg0 mo (mo + 2)) (F_ticks (sg (mo + 1)) (F_hN (sg (mo + 1)) b)) 140 = sg (mo + 1) := by
                unfold G_aside
                rw [upr_at, hs1]
                exact back_eq (fun z hz => (Inv_ticks hI _).2 z (lo140 hz))
              rw [h2, hb2, ← ha1, upr_self]
              unfold G_aside
              rw [hs1, hs2, e_sg0, ups_upr _ _ _ _ (by omega)]
            · refine V_iload hC kX6_handedIn_96 rfl ?_
              refine V_if_ne hC 105 kX6_handedIn_98 (by decide) (fun h98 => ?_) (fun h98 => ?_)
              · refine V_iload_n hC kX6_handedIn_105 rfl ?_
                refine V_if_ne hC 114 kX6_handedIn_106 (by decide) (fun h106 => ?_) (fun h106 => ?_)
                · refine V_iload_n hC kX6_handedIn_114 rfl ?_
                  refine V_iconst hC (1) kX6_handedIn_115 (by decide) ?_
                  refine V_icmp_ne hC 130 kX6_handedIn_116 (by decide) (fun h116 => ?_) (fun h116 => ?_)
                  · refine V_aload_n hC kX6_handedIn_130 rfl ?_
                    refine V_iload_n hC kX6_handedIn_131 rfl ?_
                    refine V_iconst hC (0) kX6_handedIn_132 (by decide) ?_
                    refine V_cV_fI hC (ct_ofBoat hWr b 0 hb8 (vp_lit rfl)) mkX6_ofBoat lmX6_53 kX6_handedIn_133 (Nat.le_of_ble_eq_true rfl) rfl rfl rfl (Nat.le_of_ble_eq_true rfl) ⟨(Nat.le_of_ble_eq_true rfl), (Nat.le_of_ble_eq_true rfl)⟩ ⟨rfl, rfl⟩ ⟨(Nat.le_of_ble_eq_true rfl), (Nat.le_of_ble_eq_true rfl)⟩ ?_
                    exact j136 _ ((by rw [upr_at, R_handedIn, if_pos (b1_of e_is1 h98), if_neg h106, if_neg h116]))
                  · refine V_aload_n hC kX6_handedIn_119 rfl ?_
                    refine V_iload_n hC kX6_handedIn_120 rfl ?_
                    refine V_iconst hC (2) kX6_handedIn_121 (by decide) ?_
                    refine V_cV_fI hC (ct_ofBoat hWr b 2 hb8 (vp_lit rfl)) mkX6_ofBoat lmX6_53 kX6_handedIn_122 (Nat.le_of_ble_eq_true rfl) rfl rfl rfl (Nat.le_of_ble_eq_true rfl) ⟨(Nat.le_of_ble_eq_true rfl), (Nat.le_of_ble_eq_true rfl)⟩ ⟨rfl, rfl⟩ ⟨(Nat.le_of_ble_eq_true rfl), (Nat.le_of_ble_eq_true rfl)⟩ ?_
                    refine V_iconst hC (1) kX6_handedIn_125 (by decide) ?_
                    refine V_isub hC kX6_handedIn_126 ?_
                    refine V_goto hC 136 kX6_handedIn_127 (by decide) ?_
                    exact j136 _ ((by rw [upr_at, R_handedIn, if_pos (b1_of e_is1 h98), if_neg h106, if_pos h116]))
                · refine V_iload hC kX6_handedIn_109 rfl ?_
                  refine V_goto hC 136 kX6_handedIn_111 (by decide) ?_
                  exact j136 _ ((by rw [R_handedIn, if_pos (b1_of e_is1 h98), if_pos h106]))
              · refine V_iconst hC (-1) kX6_handedIn_101 (by decide) ?_
                refine V_goto hC 136 kX6_handedIn_102 (by decide) ?_
                exact j136 _ ((by rw [R_handedIn, if_neg (b0_of e_is1 h98)]))
          · refine V_aload_n hC kX6_handedIn_78 rfl ?_
            refine V_iload_n hC kX6_handedIn_79 rfl ?_
            refine V_bipush hC (7) kX6_handedIn_80 (by decide) ?_
            refine V_cV_fI hC (ct_ofBoat hWr b 7 hb8 (vp_lit rfl)) mkX6_ofBoat lmX6_53 kX6_handedIn_82 (Nat.le_of_ble_eq_true rfl) rfl rfl rfl (Nat.le_of_ble_eq_true rfl) ⟨(Nat.le_of_ble_eq_true rfl), (Nat.le_of_ble_eq_true rfl)⟩ ⟨rfl, rfl⟩ ⟨(Nat.le_of_ble_eq_true rfl), (Nat.le_of_ble_eq_true rfl)⟩ ?_
            refine V_iload_n hC kX6_handedIn_85 rfl ?_
            refine V_icmp_le hC 93 kX6_handedIn_86 (by decide) (fun h86 => ?_) (fun h86 => ?_)
            · refine V_iconst hC (0) kX6_handedIn_93 (by decide) ?_
              exact j94 _ ((b01_f (Int32.not_lt.mpr (by rw [upr_at, e_often] at h86; exact h86))).symm)
            · refine V_iconst hC (1) kX6_handedIn_89 (by decide) ?_
              refine V_goto hC 94 kX6_handedIn_90 (by decide) ?_
              exact j94 _ ((b01_t (Int32.not_le.mp (by rw [upr_at, e_often] at h86; exact h86))).symm)
        · refine V_iload hC kX6_handedIn_49 rfl ?_
          refine V_sipush hC (200) kX6_handedIn_51 (by decide) ?_
          refine V_icmp_ge hC 78 kX6_handedIn_54 (by decide) (fun h54 => absurd h54 (by exact nI_ge (a := F_hN (sg (mo + 1)) b) (b := 200) hN (by decide))) (fun h54 => ?_)
          refine V_aload_n hC kX6_handedIn_57 rfl ?_
          refine V_iload_n hC kX6_handedIn_58 rfl ?_
          refine V_bipush hC (7) kX6_handedIn_59 (by decide) ?_
          refine V_cV_fI hC (ct_ofBoat hWr b 7 hb8 (vp_lit rfl)) mkX6_ofBoat lmX6_53 kX6_handedIn_61 (Nat.le_of_ble_eq_true rfl) rfl rfl rfl (Nat.le_of_ble_eq_true rfl) ⟨(Nat.le_of_ble_eq_true rfl), (Nat.le_of_ble_eq_true rfl)⟩ ⟨rfl, rfl⟩ ⟨(Nat.le_of_ble_eq_true rfl), (Nat.le_of_ble_eq_true rfl)⟩ ?_
          refine V_iload_n hC kX6_handedIn_64 rfl ?_
          refine V_icmp_ne hC 78 kX6_handedIn_65 (by decide) (fun h65 => ?_) (fun h65 => absurd h65 (by rw [upr_at, e_often]; exact of_decide_eq_true hq))
          refine V_join 94 (b01 (gB (sg (mo + 1)) b 7 < gB (F_ticks (sg (mo + 1)) (F_hN (sg (mo + 1)) b)) b 7)) ?_ (fun j94 => ?_)
          · refine V_nameI (fun is1 e_is1 => ?_)
            refine V_istore hC [some _, some _, some _, some _, some _, some _, none] kX6_handedIn_94 rfl (Nat.le_of_ble_eq_true rfl) ?_
            refine V_join 136 (R_handedIn (sg (mo + 1)) b a) ?_ (fun j136 => ?_)
            · refine V_nameI (fun its e_its => ?_)
              refine V_istore hC [some _, some _, some _, some _, some _, some _, some _] kX6_handedIn_136 rfl (Nat.le_of_ble_eq_true rfl) ?_
              refine V_aload_n hC kX6_handedIn_138 rfl ?_
              refine V_cV_fV hC (ct_takeBack hWr) mkX6_takeBack lmX6_209 kX6_handedIn_139 (Nat.le_of_ble_eq_true rfl) rfl rfl rfl (Nat.le_of_ble_eq_true rfl) ⟨(Nat.le_of_ble_eq_true rfl), (Nat.le_of_ble_eq_true rfl)⟩ ⟨rfl, rfl⟩ ⟨(Nat.le_of_ble_eq_true rfl), (Nat.le_of_ble_eq_true rfl)⟩ ?_
              refine V_iload hC kX6_handedIn_142 rfl ?_
              refine V_ireti hC rfl kX6_handedIn_144 ?_
              refine fM_ok (by rw [K_handedIn, if_pos hb, if_pos hw]) e_its ?_
              simp only [upr_at, upr_upr]
              have h2 : upr (G_aside sg0 mo) (mo + 1) (F_ticks (sg (mo + 1)) (F_hN (sg (mo + 1)) b)) (mo + 2) = G_aside sg0 mo (mo + 2) := upr_ne _ _ (by omega)
              have hb2 : cpy (G_aside sg0 mo (mo + 2)) (F_ticks (sg (mo + 1)) (F_hN (sg (mo + 1)) b)) 140 = sg (mo + 1) := by
                unfold G_aside
                rw [upr_at, hs1]
                exact back_eq (fun z hz => (Inv_ticks hI _).2 z (lo140 hz))
              rw [h2, hb2, ← ha1, upr_self]
              unfold G_aside
              rw [hs1, hs2, e_sg0, ups_upr _ _ _ _ (by omega)]
            · refine V_iload hC kX6_handedIn_96 rfl ?_
              refine V_if_ne hC 105 kX6_handedIn_98 (by decide) (fun h98 => ?_) (fun h98 => ?_)
              · refine V_iload_n hC kX6_handedIn_105 rfl ?_
                refine V_if_ne hC 114 kX6_handedIn_106 (by decide) (fun h106 => ?_) (fun h106 => ?_)
                · refine V_iload_n hC kX6_handedIn_114 rfl ?_
                  refine V_iconst hC (1) kX6_handedIn_115 (by decide) ?_
                  refine V_icmp_ne hC 130 kX6_handedIn_116 (by decide) (fun h116 => ?_) (fun h116 => ?_)
                  · refine V_aload_n hC kX6_handedIn_130 rfl ?_
                    refine V_iload_n hC kX6_handedIn_131 rfl ?_
                    refine V_iconst hC (0) kX6_handedIn_132 (by decide) ?_
                    refine V_cV_fI hC (ct_ofBoat hWr b 0 hb8 (vp_lit rfl)) mkX6_ofBoat lmX6_53 kX6_handedIn_133 (Nat.le_of_ble_eq_true rfl) rfl rfl rfl (Nat.le_of_ble_eq_true rfl) ⟨(Nat.le_of_ble_eq_true rfl), (Nat.le_of_ble_eq_true rfl)⟩ ⟨rfl, rfl⟩ ⟨(Nat.le_of_ble_eq_true rfl), (Nat.le_of_ble_eq_true rfl)⟩ ?_
                    exact j136 _ ((by rw [upr_at, R_handedIn, if_pos (b1_of e_is1 h98), if_neg h106, if_neg h116]))
                  · refine V_aload_n hC kX6_handedIn_119 rfl ?_
                    refine V_iload_n hC kX6_handedIn_120 rfl ?_
                    refine V_iconst hC (2) kX6_handedIn_121 (by decide) ?_
                    refine V_cV_fI hC (ct_ofBoat hWr b 2 hb8 (vp_lit rfl)) mkX6_ofBoat lmX6_53 kX6_handedIn_122 (Nat.le_of_ble_eq_true rfl) rfl rfl rfl (Nat.le_of_ble_eq_true rfl) ⟨(Nat.le_of_ble_eq_true rfl), (Nat.le_of_ble_eq_true rfl)⟩ ⟨rfl, rfl⟩ ⟨(Nat.le_of_ble_eq_true rfl), (Nat.le_of_ble_eq_true rfl)⟩ ?_
                    refine V_iconst hC (1) kX6_handedIn_125 (by decide) ?_
                    refine V_isub hC kX6_handedIn_126 ?_
                    refine V_goto hC 136 kX6_handedIn_127 (by decide) ?_
                    exact j136 _ ((by rw [upr_at, R_handedIn, if_pos (b1_of e_is1 h98), if_neg h106, if_pos h116]))
                · refine V_iload hC kX6_handedIn_109 rfl ?_
                  refine V_goto hC 136 kX6_handedIn_111 (by decide) ?_
                  exact j136 _ ((by rw [R_handedIn, if_pos (b1_of e_is1 h98), if_pos h106]))
              · refine V_iconst hC (-1) kX6_handedIn_101 (by decide) ?_
                refine V_goto hC 136 kX6_handedIn_102 (by decide) ?_
                exact j136 _ ((by rw [R_handedIn, if_neg (b0_of e_is1 h98)]))
          · refine V_aload_n hC kX6_handedIn_78 rfl ?_
            refine V_iload_n hC kX6_handedIn_79 rfl ?_
            refine V_bipush hC (7) kX6_handedIn_80 (by decide) ?_
            refine V_cV_fI hC (ct_ofBoat hWr b 7 hb8 (vp_lit rfl)) mkX6_ofBoat lmX6_53 kX6_handedIn_82 (Nat.le_of_ble_eq_true rfl) rfl rfl rfl (Nat.le_of_ble_eq_true rfl) ⟨(Nat.le_of_ble_eq_true rfl), (Nat.le_of_ble_eq_true rfl)⟩ ⟨rfl, rfl⟩ ⟨(Nat.le_of_ble_eq_true rfl), (Nat.le_of_ble_eq_true rfl)⟩ ?_
            refine V_iload_n hC kX6_handedIn_85 rfl ?_
            refine V_icmp_le hC 93 kX6_handedIn_86 (by decide) (fun h86 => ?_) (fun h86 => ?_)
            · refine V_iconst hC (0) kX6_handedIn_93 (by decide) ?_
              exact j94 _ ((b01_f (Int32.not_lt.mpr (by rw [upr_at, e_often] at h86; exact h86))).symm)
            · refine V_iconst hC (1) kX6_handedIn_89 (by decide) ?_
              refine V_goto hC 94 kX6_handedIn_90 (by decide) ?_
              exact j94 _ ((b01_t (Int32.not_le.mp (by rw [upr_at, e_often] at h86; exact h86))).symm)
      · have hno : gB (F_ticks (sg (mo + 1)) i) b 7 = gB (sg (mo + 1)) b 7 := Classical.not_not.mp (of_decide_eq_false (fa_first_no (F_hp (sg (mo + 1)) b) 200 i hi))
        have hi2 : i < 200 := Nat.lt_of_lt_of_le hi (fa_first_le _ _)
        refine V_iload hC kX6_handedIn_49 rfl ?_
        refine V_sipush hC (200) kX6_handedIn_51 (by decide) ?_
        refine V_icmp_ge hC 78 kX6_handedIn_54 (by decide) (fun h54 => absurd h54 (by exact nI_ge (a := i) (b := 200) hi2 (by decide))) (fun h54 => ?_)
        refine V_aload_n hC kX6_handedIn_57 rfl ?_
        refine V_iload_n hC kX6_handedIn_58 rfl ?_
        refine V_bipush hC (7) kX6_handedIn_59 (by decide) ?_
        refine V_cV_fI hC (ct_ofBoat hWr b 7 hb8 (vp_lit rfl)) mkX6_ofBoat lmX6_53 kX6_handedIn_61 (Nat.le_of_ble_eq_true rfl) rfl rfl rfl (Nat.le_of_ble_eq_true rfl) ⟨(Nat.le_of_ble_eq_true rfl), (Nat.le_of_ble_eq_true rfl)⟩ ⟨rfl, rfl⟩ ⟨(Nat.le_of_ble_eq_true rfl), (Nat.le_of_ble_eq_true rfl)⟩ ?_
        refine V_iload_n hC kX6_handedIn_64 rfl ?_
        refine V_icmp_ne hC 78 kX6_handedIn_65 (by decide) (fun h65 => absurd h65 (by rw [upr_at, e_often]; exact not_not_intro hno)) (fun h65 => ?_)
        refine V_aload_n hC kX6_handedIn_68 rfl ?_
        refine V_cV_fV hC (ct_goesTick hWr (by rw [upr_at]; exact (Inv_ticks hI i).1)) mkX6_goesTick lmX6_94 kX6_handedIn_69 (Nat.le_of_ble_eq_true rfl) rfl rfl rfl (Nat.le_of_ble_eq_true rfl) ⟨(Nat.le_of_ble_eq_true rfl), (Nat.le_of_ble_eq_true rfl)⟩ ⟨rfl, rfl⟩ ⟨(Nat.le_of_ble_eq_true rfl), (Nat.le_of_ble_eq_true rfl)⟩ ?_
        refine V_iinc hC (_ + 1) [some _, some _, some _, some _, some _, none, none] kX6_handedIn_72 rfl rfl rfl (Nat.le_of_ble_eq_true rfl) ?_
        refine V_goto hC 49 kX6_handedIn_75 (by decide) ?_
        refine V_eq (by rw [nI_succ]) ?_ ihi
        rw [upr_at, upr_upr, F_ticks]
    · refine V_aload_n hC kX6_handedIn_28 rfl ?_
      refine V_iconst hC (2) kX6_handedIn_29 (by decide) ?_
      refine V_cV_fI hC (ct_fails hWr 2) mkX6_fails lmX6_127 kX6_handedIn_30 (Nat.le_of_ble_eq_true rfl) rfl rfl rfl (Nat.le_of_ble_eq_true rfl) ⟨(Nat.le_of_ble_eq_true rfl), (Nat.le_of_ble_eq_true rfl)⟩ ⟨rfl, rfl⟩ ⟨(Nat.le_of_ble_eq_true rfl), (Nat.le_of_ble_eq_true rfl)⟩ ?_
      refine V_ireti hC rfl kX6_handedIn_33 ?_
      exact fM_no 2 (by rw [hs1] at h10; rw [K_handedIn, if_pos (b01n.mp h10), if_neg (b01e.mp h25)]) (by decide) (by rw [e_sg0, ups_ups])
  · refine V_aload_n hC kX6_handedIn_13 rfl ?_
    refine V_iconst hC (1) kX6_handedIn_14 (by decide) ?_
    refine V_cV_fI hC (ct_fails hWr 1) mkX6_fails lmX6_127 kX6_handedIn_15 (Nat.le_of_ble_eq_true rfl) rfl rfl rfl (Nat.le_of_ble_eq_true rfl) ⟨(Nat.le_of_ble_eq_true rfl), (Nat.le_of_ble_eq_true rfl)⟩ ⟨rfl, rfl⟩ ⟨(Nat.le_of_ble_eq_true rfl), (Nat.le_of_ble_eq_true rfl)⟩ ?_
    refine V_ireti hC rfl kX6_handedIn_18 ?_
    exact fM_no 1 (by rw [hs1] at h10; rw [K_handedIn, if_neg (b01e.mp h10)]) (by decide) (by rw [e_sg0, ups_ups])
def mtX6_bestMargin : Mt := (yX6_bestMargin, cX6_bestMargin, 9, (some .int), 9, 210, 0, 0)
theorem kX6_bestMargin_0 : Dk mtX6_bestMargin 0 (.aload_n 0) 1 1 := ⟨by decide +kernel, rfl⟩
theorem kX6_bestMargin_1 : Dk mtX6_bestMargin 1 (.iconst 0) 1 2 := ⟨by decide +kernel, rfl⟩
theorem kX6_bestMargin_2 : Dk mtX6_bestMargin 2 (.putfield 32) 3 5 := ⟨by decide +kernel, rfl⟩
theorem kX6_bestMargin_5 : Dk mtX6_bestMargin 5 (.iload_n 1) 1 6 := ⟨by decide +kernel, rfl⟩
theorem kX6_bestMargin_6 : Dk mtX6_bestMargin 6 (.iconst 1) 1 7 := ⟨by decide +kernel, rfl⟩
theorem kX6_bestMargin_7 : Dk mtX6_bestMargin 7 (.bipush 100) 2 9 := ⟨by decide +kernel, rfl⟩
theorem kX6_bestMargin_9 : Dk mtX6_bestMargin 9 (.invokestatic 39) 3 12 := ⟨by decide +kernel, rfl⟩
theorem kX6_bestMargin_12 : Dk mtX6_bestMargin 12 (.ifCond .ne 9) 3 15 := ⟨by decide +kernel, rfl⟩
theorem kX6_bestMargin_15 : Dk mtX6_bestMargin 15 (.aload_n 0) 1 16 := ⟨by decide +kernel, rfl⟩
theorem kX6_bestMargin_16 : Dk mtX6_bestMargin 16 (.iconst 1) 1 17 := ⟨by decide +kernel, rfl⟩
theorem kX6_bestMargin_17 : Dk mtX6_bestMargin 17 (.invokevirtual 127) 3 20 := ⟨by decide +kernel, rfl⟩
theorem kX6_bestMargin_20 : Dk mtX6_bestMargin 20 (.ireturn) 1 21 := ⟨by decide +kernel, rfl⟩
theorem kX6_bestMargin_21 : Dk mtX6_bestMargin 21 (.iconst (-1)) 1 22 := ⟨by decide +kernel, rfl⟩
theorem kX6_bestMargin_22 : Dk mtX6_bestMargin 22 (.istore_n 2) 1 23 := ⟨by decide +kernel, rfl⟩
theorem kX6_bestMargin_23 : Dk mtX6_bestMargin 23 (.iconst 0) 1 24 := ⟨by decide +kernel, rfl⟩
theorem kX6_bestMargin_24 : Dk mtX6_bestMargin 24 (.istore_n 3) 1 25 := ⟨by decide +kernel, rfl⟩
theorem kX6_bestMargin_25 : Dk mtX6_bestMargin 25 (.iconst 0) 1 26 := ⟨by decide +kernel, rfl⟩
theorem kX6_bestMargin_26 : Dk mtX6_bestMargin 26 (.istore 4) 2 28 := ⟨by decide +kernel, rfl⟩
theorem kX6_bestMargin_28 : Dk mtX6_bestMargin 28 (.iconst 0) 1 29 := ⟨by decide +kernel, rfl⟩
theorem kX6_bestMargin_29 : Dk mtX6_bestMargin 29 (.istore 5) 2 31 := ⟨by decide +kernel, rfl⟩
theorem kX6_bestMargin_31 : Dk mtX6_bestMargin 31 (.iload 5) 2 33 := ⟨by decide +kernel, rfl⟩
theorem kX6_bestMargin_33 : Dk mtX6_bestMargin 33 (.bipush 60) 2 35 := ⟨by decide +kernel, rfl⟩
theorem kX6_bestMargin_35 : Dk mtX6_bestMargin 35 (.if_icmp .gt 110) 3 38 := ⟨by decide +kernel, rfl⟩
theorem kX6_bestMargin_38 : Dk mtX6_bestMargin 38 (.aload_n 0) 1 39 := ⟨by decide +kernel, rfl⟩
theorem kX6_bestMargin_39 : Dk mtX6_bestMargin 39 (.iload 5) 2 41 := ⟨by decide +kernel, rfl⟩
theorem kX6_bestMargin_41 : Dk mtX6_bestMargin 41 (.iload_n 1) 1 42 := ⟨by decide +kernel, rfl⟩
theorem kX6_bestMargin_42 : Dk mtX6_bestMargin 42 (.bipush 8) 2 44 := ⟨by decide +kernel, rfl⟩
theorem kX6_bestMargin_44 : Dk mtX6_bestMargin 44 (.invokevirtual 212) 3 47 := ⟨by decide +kernel, rfl⟩
theorem kX6_bestMargin_47 : Dk mtX6_bestMargin 47 (.aload_n 0) 1 48 := ⟨by decide +kernel, rfl⟩
theorem kX6_bestMargin_48 : Dk mtX6_bestMargin 48 (.iload 5) 2 50 := ⟨by decide +kernel, rfl⟩
theorem kX6_bestMargin_50 : Dk mtX6_bestMargin 50 (.iload_n 1) 1 51 := ⟨by decide +kernel, rfl⟩
theorem kX6_bestMargin_51 : Dk mtX6_bestMargin 51 (.bipush 10) 2 53 := ⟨by decide +kernel, rfl⟩
theorem kX6_bestMargin_53 : Dk mtX6_bestMargin 53 (.invokevirtual 212) 3 56 := ⟨by decide +kernel, rfl⟩
theorem kX6_bestMargin_56 : Dk mtX6_bestMargin 56 (.iadd) 1 57 := ⟨by decide +kernel, rfl⟩
theorem kX6_bestMargin_57 : Dk mtX6_bestMargin 57 (.istore 6) 2 59 := ⟨by decide +kernel, rfl⟩
theorem kX6_bestMargin_59 : Dk mtX6_bestMargin 59 (.aload_n 0) 1 60 := ⟨by decide +kernel, rfl⟩
theorem kX6_bestMargin_60 : Dk mtX6_bestMargin 60 (.iload 5) 2 62 := ⟨by decide +kernel, rfl⟩
theorem kX6_bestMargin_62 : Dk mtX6_bestMargin 62 (.iload_n 1) 1 63 := ⟨by decide +kernel, rfl⟩
theorem kX6_bestMargin_63 : Dk mtX6_bestMargin 63 (.bipush 7) 2 65 := ⟨by decide +kernel, rfl⟩
theorem kX6_bestMargin_65 : Dk mtX6_bestMargin 65 (.invokevirtual 212) 3 68 := ⟨by decide +kernel, rfl⟩
theorem kX6_bestMargin_68 : Dk mtX6_bestMargin 68 (.istore 7) 2 70 := ⟨by decide +kernel, rfl⟩
theorem kX6_bestMargin_70 : Dk mtX6_bestMargin 70 (.iload_n 2) 1 71 := ⟨by decide +kernel, rfl⟩
theorem kX6_bestMargin_71 : Dk mtX6_bestMargin 71 (.iconst (-1)) 1 72 := ⟨by decide +kernel, rfl⟩
theorem kX6_bestMargin_72 : Dk mtX6_bestMargin 72 (.if_icmp .eq 22) 3 75 := ⟨by decide +kernel, rfl⟩
theorem kX6_bestMargin_75 : Dk mtX6_bestMargin 75 (.iload 6) 2 77 := ⟨by decide +kernel, rfl⟩
theorem kX6_bestMargin_77 : Dk mtX6_bestMargin 77 (.iload_n 3) 1 78 := ⟨by decide +kernel, rfl⟩
theorem kX6_bestMargin_78 : Dk mtX6_bestMargin 78 (.if_icmp .lt 16) 3 81 := ⟨by decide +kernel, rfl⟩
theorem kX6_bestMargin_81 : Dk mtX6_bestMargin 81 (.iload 6) 2 83 := ⟨by decide +kernel, rfl⟩
theorem kX6_bestMargin_83 : Dk mtX6_bestMargin 83 (.iload_n 3) 1 84 := ⟨by decide +kernel, rfl⟩
theorem kX6_bestMargin_84 : Dk mtX6_bestMargin 84 (.if_icmp .ne 14) 3 87 := ⟨by decide +kernel, rfl⟩
theorem kX6_bestMargin_87 : Dk mtX6_bestMargin 87 (.iload 7) 2 89 := ⟨by decide +kernel, rfl⟩
theorem kX6_bestMargin_89 : Dk mtX6_bestMargin 89 (.iload 4) 2 91 := ⟨by decide +kernel, rfl⟩
theorem kX6_bestMargin_91 : Dk mtX6_bestMargin 91 (.if_icmp .ge 7) 3 94 := ⟨by decide +kernel, rfl⟩
theorem kX6_bestMargin_94 : Dk mtX6_bestMargin 94 (.iconst 1) 1 95 := ⟨by decide +kernel, rfl⟩
theorem kX6_bestMargin_95 : Dk mtX6_bestMargin 95 (.goto 4) 3 98 := ⟨by decide +kernel, rfl⟩
theorem kX6_bestMargin_98 : Dk mtX6_bestMargin 98 (.iconst 0) 1 99 := ⟨by decide +kernel, rfl⟩
theorem kX6_bestMargin_99 : Dk mtX6_bestMargin 99 (.istore 8) 2 101 := ⟨by decide +kernel, rfl⟩
theorem kX6_bestMargin_101 : Dk mtX6_bestMargin 101 (.iload 8) 2 103 := ⟨by decide +kernel, rfl⟩
theorem kX6_bestMargin_103 : Dk mtX6_bestMargin 103 (.ifCond .eq 8) 3 106 := ⟨by decide +kernel, rfl⟩
theorem kX6_bestMargin_106 : Dk mtX6_bestMargin 106 (.iload 5) 2 108 := ⟨by decide +kernel, rfl⟩
theorem kX6_bestMargin_108 : Dk mtX6_bestMargin 108 (.goto 4) 3 111 := ⟨by decide +kernel, rfl⟩
theorem kX6_bestMargin_111 : Dk mtX6_bestMargin 111 (.iload_n 2) 1 112 := ⟨by decide +kernel, rfl⟩
theorem kX6_bestMargin_112 : Dk mtX6_bestMargin 112 (.istore_n 2) 1 113 := ⟨by decide +kernel, rfl⟩
theorem kX6_bestMargin_113 : Dk mtX6_bestMargin 113 (.iload 8) 2 115 := ⟨by decide +kernel, rfl⟩
theorem kX6_bestMargin_115 : Dk mtX6_bestMargin 115 (.ifCond .eq 8) 3 118 := ⟨by decide +kernel, rfl⟩
theorem kX6_bestMargin_118 : Dk mtX6_bestMargin 118 (.iload 6) 2 120 := ⟨by decide +kernel, rfl⟩
theorem kX6_bestMargin_120 : Dk mtX6_bestMargin 120 (.goto 4) 3 123 := ⟨by decide +kernel, rfl⟩
theorem kX6_bestMargin_123 : Dk mtX6_bestMargin 123 (.iload_n 3) 1 124 := ⟨by decide +kernel, rfl⟩
theorem kX6_bestMargin_124 : Dk mtX6_bestMargin 124 (.istore_n 3) 1 125 := ⟨by decide +kernel, rfl⟩
theorem kX6_bestMargin_125 : Dk mtX6_bestMargin 125 (.iload 8) 2 127 := ⟨by decide +kernel, rfl⟩
theorem kX6_bestMargin_127 : Dk mtX6_bestMargin 127 (.ifCond .eq 8) 3 130 := ⟨by decide +kernel, rfl⟩
theorem kX6_bestMargin_130 : Dk mtX6_bestMargin 130 (.iload 7) 2 132 := ⟨by decide +kernel, rfl⟩
theorem kX6_bestMargin_132 : Dk mtX6_bestMargin 132 (.goto 5) 3 135 := ⟨by decide +kernel, rfl⟩
theorem kX6_bestMargin_135 : Dk mtX6_bestMargin 135 (.iload 4) 2 137 := ⟨by decide +kernel, rfl⟩
theorem kX6_bestMargin_137 : Dk mtX6_bestMargin 137 (.istore 4) 2 139 := ⟨by decide +kernel, rfl⟩
theorem kX6_bestMargin_139 : Dk mtX6_bestMargin 139 (.iinc 5 5) 3 142 := ⟨by decide +kernel, rfl⟩
theorem kX6_bestMargin_142 : Dk mtX6_bestMargin 142 (.goto (-111)) 3 145 := ⟨by decide +kernel, rfl⟩
theorem kX6_bestMargin_145 : Dk mtX6_bestMargin 145 (.iload_n 2) 1 146 := ⟨by decide +kernel, rfl⟩
theorem kX6_bestMargin_146 : Dk mtX6_bestMargin 146 (.ireturn) 1 147 := ⟨by decide +kernel, rfl⟩
set_option maxHeartbeats 4000000 in
set_option maxRecDepth 100000 in
theorem ct_bestMargin {l : Launch} {w : Wd} {sg : Sg} (hWr : Wr w) {mo : Nat} (n : Int32) (hI : Inv (sg (mo + 1))) : M l mtX6_bestMargin w [vR (some (6, 0, mo)), vI n] sg (fM mo sg (K_bestMargin n) (F_bm (sg (mo + 1)) (tn n) 13).1 (G_aside sg mo)) := by
  refine M_of [some (vR (some (6, 0, mo))), some (vI n), none, none, none, none, none, none, none] rfl (Nat.le_of_ble_eq_true rfl) (by decide +kernel) ?_
  intro p_ e_ s_ m_ args_ below_ meth_ c_ hC hO
  refine V_aload_n hC kX6_bestMargin_0 rfl ?_
  refine V_iconst hC (0) kX6_bestMargin_1 (by decide) ?_
  refine V_putI hC 6 0 lfX6_32 kX6_bestMargin_2 (Nat.le_of_ble_eq_true rfl) (Nat.le_of_ble_eq_true rfl) rfl rfl ⟨rfl, rfl⟩ ?_
  refine V_nameS (fun sg0 e_sg0 => ?_)
  have hs1 : sg0 (mo + 1) = sg (mo + 1) := by rw [e_sg0]; exact upr_ne _ _ (by omega)
  have hs2 : sg0 (mo + 2) = sg (mo + 2) := by rw [e_sg0]; exact upr_ne _ _ (by omega)
  refine V_iload_n hC kX6_bestMargin_5 rfl ?_
  refine V_iconst hC (1) kX6_bestMargin_6 (by decide) ?_
  refine V_bipush hC (100) kX6_bestMargin_7 (by decide) ?_
  refine V_cS_fI hC (ct_in hWr _ _ _) mkX6_in lmX6_39 kX6_bestMargin_9 rfl rfl (Nat.le_of_ble_eq_true rfl) ⟨(Nat.le_of_ble_eq_true rfl), (Nat.le_of_ble_eq_true rfl)⟩ ⟨rfl, rfl⟩ ⟨(Nat.le_of_ble_eq_true rfl), (Nat.le_of_ble_eq_true rfl)⟩ ?_
  refine V_if_ne hC 21 kX6_bestMargin_12 (by decide) (fun h12 => ?_) (fun h12 => ?_)
  · have hp := b01n.mp h12
    obtain ⟨N, hN, -, en, etn⟩ := tn60 (m := 100) rfl hp
    subst en
    refine V_iconst hC (-1) kX6_bestMargin_21 (by decide) ?_
    refine V_istore_n hC [some _, some _, some _, none, none, none, none, none, none] kX6_bestMargin_22 rfl (Nat.le_of_ble_eq_true rfl) ?_
    refine V_iconst hC (0) kX6_bestMargin_23 (by decide) ?_
    refine V_istore_n hC [some _, some _, some _, some _, none, none, none, none, none] kX6_bestMargin_24 rfl (Nat.le_of_ble_eq_true rfl) ?_
    refine V_iconst hC (0) kX6_bestMargin_25 (by decide) ?_
    refine V_istore hC [some _, some _, some _, some _, some _, none, none, none, none] kX6_bestMargin_26 rfl (Nat.le_of_ble_eq_true rfl) ?_
    refine V_iconst hC (0) kX6_bestMargin_28 (by decide) ?_
    refine V_istore hC [some _, some _, some _, some _, some _, some _, none, none, none] kX6_bestMargin_29 rfl (Nat.le_of_ble_eq_true rfl) ?_
    refine V_loop 13 (fun i => [some (vR (some (6, 0, mo))), some (vI (nI N)), some (vI (F_bm (sg (mo + 1)) N i).1), some (vI (F_bm (sg (mo + 1)) N i).2.1), some (vI (F_bm (sg (mo + 1)) N i).2.2), some (vI (nI (5 * i))), none, none, none]) (fun i => (if i = 0 then sg0 else G_aside sg0 mo)) rfl (if_pos rfl).symm ?_ (fun i hi ihi => ?_)
    · refine V_iload hC kX6_bestMargin_31 rfl ?_
      refine V_bipush hC (60) kX6_bestMargin_33 (by decide) ?_
      refine V_icmp_gt hC 145 kX6_bestMargin_35 (by decide) (fun h35 => ?_) (fun h35 => absurd h35 (not_not_intro (by decide)))
      refine V_iload_n hC kX6_bestMargin_145 rfl ?_
      refine V_ireti hC rfl kX6_bestMargin_146 ?_
      exact fM_ok (by rw [K_bestMargin, if_pos hp]) (by rw [etn]) (by rw [if_neg (by decide)]; unfold G_aside; rw [hs1, hs2, e_sg0, ups_upr _ _ _ _ (by omega)])
    · have hm1 : (if i = 0 then sg0 else G_aside sg0 mo) (mo + 1) = sg (mo + 1) := by
        split
        · exact hs1
        · rw [aside_1, hs1]
      have hma : G_aside (if i = 0 then sg0 else G_aside sg0 mo) mo = G_aside sg0 mo := by
        split
        · rfl
        · exact aside_aside _ _
      have hv : inn (nI (5 * i)) 0 100 := ⟨nI_pos' (by omega), nI_le (a := 5 * i) (b := 100) (by omega) (by decide)⟩
      generalize hmg : (if i = 0 then sg0 else G_aside sg0 mo) = sgi at hm1 hma ⊢
      refine V_iload hC kX6_bestMargin_31 rfl ?_
      refine V_bipush hC (60) kX6_bestMargin_33 (by decide) ?_
      refine V_icmp_gt hC 145 kX6_bestMargin_35 (by decide) (fun h35 => absurd h35 (Int32.not_lt.mpr (by exact nI_le (a := 5 * i) (b := 60) (by omega) (by decide)))) (fun h35 => ?_)
      refine V_aload_n hC kX6_bestMargin_38 rfl ?_
      refine V_iload hC kX6_bestMargin_39 rfl ?_
      refine V_iload_n hC kX6_bestMargin_41 rfl ?_
      refine V_bipush hC (8) kX6_bestMargin_42 (by decide) ?_
      refine V_cV_fI hC (ct_bringsBy (N := N) (j := 8) hWr (nI (5 * i)) hv (by omega) (by decide) (by rw [hm1]; exact hI)) mkX6_bringsBy lmX6_212 kX6_bestMargin_44 (Nat.le_of_ble_eq_true rfl) rfl rfl rfl (Nat.le_of_ble_eq_true rfl) ⟨(Nat.le_of_ble_eq_true rfl), (Nat.le_of_ble_eq_true rfl)⟩ ⟨rfl, rfl⟩ ⟨(Nat.le_of_ble_eq_true rfl), (Nat.le_of_ble_eq_true rfl)⟩ ?_
      refine V_aload_n hC kX6_bestMargin_47 rfl ?_
      refine V_iload hC kX6_bestMargin_48 rfl ?_
      refine V_iload_n hC kX6_bestMargin_50 rfl ?_
      refine V_bipush hC (10) kX6_bestMargin_51 (by decide) ?_
      refine V_cV_fI hC (ct_bringsBy (N := N) (j := 10) hWr (nI (5 * i)) hv (by omega) (by decide) (by rw [aside_1, hm1]; exact hI)) mkX6_bringsBy lmX6_212 kX6_bestMargin_53 (Nat.le_of_ble_eq_true rfl) rfl rfl rfl (Nat.le_of_ble_eq_true rfl) ⟨(Nat.le_of_ble_eq_true rfl), (Nat.le_of_ble_eq_true rfl)⟩ ⟨rfl, rfl⟩ ⟨(Nat.le_of_ble_eq_true rfl), (Nat.le_of_ble_eq_true rfl)⟩ ?_
      refine V_iadd hC kX6_bestMargin_56 ?_
      refine V_nameI (fun its e_its => ?_)
      refine V_istore hC [some _, some _, some _, some _, some _, some _, some _, none, none] kX6_bestMargin_57 rfl (Nat.le_of_ble_eq_true rfl) ?_
      rw [aside_1, hm1] at e_its
      refine V_aload_n hC kX6_bestMargin_59 rfl ?_
      refine V_iload hC kX6_bestMargin_60 rfl ?_
      refine V_iload_n hC kX6_bestMargin_62 rfl ?_
      refine V_bipush hC (7) kX6_bestMargin_63 (by decide) ?_
      refine V_cV_fI hC (ct_bringsBy (N := N) (j := 7) hWr (nI (5 * i)) hv (by omega) (by decide) (by rw [aside_1, aside_1, hm1]; exact hI)) mkX6_bringsBy lmX6_212 kX6_bestMargin_65 (Nat.le_of_ble_eq_true rfl) rfl rfl rfl (Nat.le_of_ble_eq_true rfl) ⟨(Nat.le_of_ble_eq_true rfl), (Nat.le_of_ble_eq_true rfl)⟩ ⟨rfl, rfl⟩ ⟨(Nat.le_of_ble_eq_true rfl), (Nat.le_of_ble_eq_true rfl)⟩ ?_
      refine V_nameI (fun oft e_oft => ?_)
      refine V_istore hC [some _, some _, some _, some _, some _, some _, some _, some _, none] kX6_bestMargin_68 rfl (Nat.le_of_ble_eq_true rfl) ?_
      rw [aside_1, aside_1, hm1] at e_oft
      refine V_join 99 (b01 ((F_bm (sg (mo + 1)) N i).1 = -1 ∨ its < (F_bm (sg (mo + 1)) N i).2.1 ∨ (its = (F_bm (sg (mo + 1)) N i).2.1 ∧ oft < (F_bm (sg (mo + 1)) N i).2.2))) ?_ (fun j99 => ?_)
      · refine V_nameI (fun is1 e_is1 => ?_)
        refine V_istore hC [some _, some _, some _, some _, some _, some _, some _, some _, some _] kX6_bestMargin_99 rfl (Nat.le_of_ble_eq_true rfl) ?_
        have hF : F_bm (sg (mo + 1)) N (i + 1) = if is1 = 0 then F_bm (sg (mo + 1)) N i else (nI (5 * i), its, oft) := by
          rw [F_bm, ← e_its, ← e_oft]
          by_cases hz : is1 = 0
          · rw [if_pos hz, if_neg (b0_of e_is1 hz)]
          · rw [if_neg hz, if_pos (b1_of e_is1 hz)]
        refine V_join 112 ((F_bm (sg (mo + 1)) N (i + 1)).1) ?_ (fun j112 => ?_)
        · refine V_istore_n hC [some _, some _, some _, some _, some _, some _, some _, some _, some _] kX6_bestMargin_112 rfl (Nat.le_of_ble_eq_true rfl) ?_
          refine V_join 124 ((F_bm (sg (mo + 1)) N (i + 1)).2.1) ?_ (fun j124 => ?_)
          · refine V_istore_n hC [some _, some _, some _, some _, some _, some _, some _, some _, some _] kX6_bestMargin_124 rfl (Nat.le_of_ble_eq_true rfl) ?_
            refine V_join 137 ((F_bm (sg (mo + 1)) N (i + 1)).2.2) ?_ (fun j137 => ?_)
            · refine V_istore hC [some _, some _, some _, some _, some _, some _, some _, some _, some _] kX6_bestMargin_137 rfl (Nat.le_of_ble_eq_true rfl) ?_
              refine V_iinc hC (_ + 5) [some _, some _, some _, some _, some _, some _, some _, some _, some _] kX6_bestMargin_139 rfl rfl rfl (Nat.le_of_ble_eq_true rfl) ?_
              refine V_goto hC 31 kX6_bestMargin_142 (by decide) ?_
              refine V_drop 6 [_, _, _, _, _, _, none, _, _] rfl ?_
              refine V_drop 7 [_, _, _, _, _, _, none, none, _] rfl ?_
              refine V_drop 8 [_, _, _, _, _, _, none, none, none] rfl ?_
              refine V_eq ?_ ?_ ihi
              · rw [show nI (5 * i) + 5 = nI (5 * (i + 1)) from nI_add (5 * i) 5]
              · rw [if_neg (Nat.succ_ne_zero i), aside_aside, aside_aside, hma]
            · refine V_iload hC kX6_bestMargin_125 rfl ?_
              refine V_if_eq hC 135 kX6_bestMargin_127 (by decide) (fun h127 => ?_) (fun h127 => ?_)
              · refine V_iload hC kX6_bestMargin_135 rfl ?_
                exact j137 _ (by rw [hF, if_pos h127])
              · refine V_iload hC kX6_bestMargin_130 rfl ?_
                refine V_goto hC 137 kX6_bestMargin_132 (by decide) ?_
                exact j137 _ (by rw [hF, if_neg h127])
          · refine V_iload hC kX6_bestMargin_113 rfl ?_
            refine V_if_eq hC 123 kX6_bestMargin_115 (by decide) (fun h115 => ?_) (fun h115 => ?_)
            · refine V_iload_n hC kX6_bestMargin_123 rfl ?_
              exact j124 _ (by rw [hF, if_pos h115])
            · refine V_iload hC kX6_bestMargin_118 rfl ?_
              refine V_goto hC 124 kX6_bestMargin_120 (by decide) ?_
              exact j124 _ (by rw [hF, if_neg h115])
        · refine V_iload hC kX6_bestMargin_101 rfl ?_
          refine V_if_eq hC 111 kX6_bestMargin_103 (by decide) (fun h103 => ?_) (fun h103 => ?_)
          · refine V_iload_n hC kX6_bestMargin_111 rfl ?_
            exact j112 _ (by rw [hF, if_pos h103])
          · refine V_iload hC kX6_bestMargin_106 rfl ?_
            refine V_goto hC 112 kX6_bestMargin_108 (by decide) ?_
            exact j112 _ (by rw [hF, if_neg h103])
      · refine V_iload_n hC kX6_bestMargin_70 rfl ?_
        refine V_iconst hC (-1) kX6_bestMargin_71 (by decide) ?_
        refine V_icmp_eq hC 94 kX6_bestMargin_72 (by decide) (fun h72 => ?_) (fun h72 => ?_)
        · refine V_iconst hC (1) kX6_bestMargin_94 (by decide) ?_
          refine V_goto hC 99 kX6_bestMargin_95 (by decide) ?_
          exact j99 _ ((b01_t (Or.inl h72)).symm)
        · refine V_iload hC kX6_bestMargin_75 rfl ?_
          refine V_iload_n hC kX6_bestMargin_77 rfl ?_
          refine V_icmp_lt hC 94 kX6_bestMargin_78 (by decide) (fun h78 => ?_) (fun h78 => ?_)
          · refine V_iconst hC (1) kX6_bestMargin_94 (by decide) ?_
            refine V_goto hC 99 kX6_bestMargin_95 (by decide) ?_
            exact j99 _ ((b01_t (Or.inr (Or.inl h78))).symm)
          · refine V_iload hC kX6_bestMargin_81 rfl ?_
            refine V_iload_n hC kX6_bestMargin_83 rfl ?_
            refine V_icmp_ne hC 98 kX6_bestMargin_84 (by decide) (fun h84 => ?_) (fun h84 => ?_)
            · refine V_iconst hC (0) kX6_bestMargin_98 (by decide) ?_
              exact j99 _ ((b01_f (fun z => z.elim h72 (fun z => z.elim h78 (fun z => h84 z.1)))).symm)
            · refine V_iload hC kX6_bestMargin_87 rfl ?_
              refine V_iload hC kX6_bestMargin_89 rfl ?_
              refine V_icmp_ge hC 98 kX6_bestMargin_91 (by decide) (fun h91 => ?_) (fun h91 => ?_)
              · refine V_iconst hC (0) kX6_bestMargin_98 (by decide) ?_
                exact j99 _ ((b01_f (fun z => z.elim h72 (fun z => z.elim h78 (fun z => absurd z.2 (Int32.not_lt.mpr h91))))).symm)
              · refine V_iconst hC (1) kX6_bestMargin_94 (by decide) ?_
                refine V_goto hC 99 kX6_bestMargin_95 (by decide) ?_
                exact j99 _ ((b01_t (Or.inr (Or.inr ⟨h84, Int32.not_le.mp h91⟩))).symm)
  · refine V_aload_n hC kX6_bestMargin_15 rfl ?_
    refine V_iconst hC (1) kX6_bestMargin_16 (by decide) ?_
    refine V_cV_fI hC (ct_fails hWr 1) mkX6_fails lmX6_127 kX6_bestMargin_17 (Nat.le_of_ble_eq_true rfl) rfl rfl rfl (Nat.le_of_ble_eq_true rfl) ⟨(Nat.le_of_ble_eq_true rfl), (Nat.le_of_ble_eq_true rfl)⟩ ⟨rfl, rfl⟩ ⟨(Nat.le_of_ble_eq_true rfl), (Nat.le_of_ble_eq_true rfl)⟩ ?_
    refine V_ireti hC rfl kX6_bestMargin_20 ?_
    exact fM_no 1 (by rw [K_bestMargin, if_neg (b01e.mp h12)]) (by decide) (by rw [e_sg0, ups_ups])
