-- HOW ct_in fI
-- HOW ct_fails fI
-- HOW ct_of fI
-- HOW ct_ofBoat fI
-- HOW ct_layBoat fV
-- HOW ct_isLight fI
-- HOW ct_isBoat fI
-- HOW ct_isPlace fI
-- HOW ct_bright fI
-- HOW ct_worth fI
-- HOW ct_serves fI
-- HOW ct_best fI
-- HOW ct_sails fV
-- HOW ct_drops fV
-- HOW ct_wished fI
-- HOW ct_hands fV
-- HOW ct_wishes fV
-- HOW ct_finds fV
-- HOW ct_goesOn fV
-- HOW ct_goesTick fV
-- HOW ct_goesBy fI
-- HOW ct_putAside fV
-- HOW ct_takeBack fV
-- HOW ct_isLamp fI
-- HOW ct_addsLight fI
-- HOW ct_actsLight fI
-- HOW ct_addsBoat fI
-- HOW ct_actsBoat fI
-- HOW ct_actsSteer fI
-- HOW ct_canTalk fI
-- HOW ct_actsTalk fI
-- HOW ct_actsLean fI
-- HOW ct_actsDim fI
-- HOW ct_mostOf fI
-- HOW ct_isSetting fI
-- HOW ct_actsSet fI
-- HOW ct_actsTicks fI
-- HOW ct_boatsThat fI
-- HOW ct_servedBy fI
-- HOW ct_begins fV
-- HOW ct_tellsAbout fI
-- HOW ct_about fM
-- HOW ct_lightOf fM
-- HOW ct_boatOf fM
-- HOW ct_brightness fM
-- HOW ct_bestAt fM
-- HOW ct_setting fM
-- HOW ct_saves fV
-- HOW ct_light fM
-- HOW ct_boat fM
-- HOW ct_steer fM
-- HOW ct_talk fM
-- HOW ct_lean fM
-- HOW ct_dim fM
-- HOW ct_set fM
-- HOW ct_ticks fM
-- HOW ct_undo fM
-- HOW ct_save fM
-- HOW ct_restore fM
/-! the reference: actions of the face, undo, slots -/
def mtX6_saves : Mt := (yX6_saves, cX6_saves, 2, none, 0, 0, 0, 0)
theorem kX6_saves_0 : Dk mtX6_saves 0 (.aload_n 0) 1 1 := ⟨by decide +kernel, rfl⟩
theorem kX6_saves_1 : Dk mtX6_saves 1 (.getfield 43) 3 4 := ⟨by decide +kernel, rfl⟩
theorem kX6_saves_4 : Dk mtX6_saves 4 (.bipush 14) 2 6 := ⟨by decide +kernel, rfl⟩
theorem kX6_saves_6 : Dk mtX6_saves 6 (.if_icmp .ne 44) 3 9 := ⟨by decide +kernel, rfl⟩
theorem kX6_saves_9 : Dk mtX6_saves 9 (.iconst 0) 1 10 := ⟨by decide +kernel, rfl⟩
theorem kX6_saves_10 : Dk mtX6_saves 10 (.istore_n 1) 1 11 := ⟨by decide +kernel, rfl⟩
theorem kX6_saves_11 : Dk mtX6_saves 11 (.iload_n 1) 1 12 := ⟨by decide +kernel, rfl⟩
theorem kX6_saves_12 : Dk mtX6_saves 12 (.sipush 1820) 3 15 := ⟨by decide +kernel, rfl⟩
theorem kX6_saves_15 : Dk mtX6_saves 15 (.if_icmp .ge 25) 3 18 := ⟨by decide +kernel, rfl⟩
theorem kX6_saves_18 : Dk mtX6_saves 18 (.aload_n 0) 1 19 := ⟨by decide +kernel, rfl⟩
theorem kX6_saves_19 : Dk mtX6_saves 19 (.getfield 16) 3 22 := ⟨by decide +kernel, rfl⟩
theorem kX6_saves_22 : Dk mtX6_saves 22 (.iload_n 1) 1 23 := ⟨by decide +kernel, rfl⟩
theorem kX6_saves_23 : Dk mtX6_saves 23 (.aload_n 0) 1 24 := ⟨by decide +kernel, rfl⟩
theorem kX6_saves_24 : Dk mtX6_saves 24 (.getfield 16) 3 27 := ⟨by decide +kernel, rfl⟩
theorem kX6_saves_27 : Dk mtX6_saves 27 (.iload_n 1) 1 28 := ⟨by decide +kernel, rfl⟩
theorem kX6_saves_28 : Dk mtX6_saves 28 (.sipush 140) 3 31 := ⟨by decide +kernel, rfl⟩
theorem kX6_saves_31 : Dk mtX6_saves 31 (.iadd) 1 32 := ⟨by decide +kernel, rfl⟩
theorem kX6_saves_32 : Dk mtX6_saves 32 (.iaload) 1 33 := ⟨by decide +kernel, rfl⟩
theorem kX6_saves_33 : Dk mtX6_saves 33 (.iastore) 1 34 := ⟨by decide +kernel, rfl⟩
theorem kX6_saves_34 : Dk mtX6_saves 34 (.iinc 1 1) 3 37 := ⟨by decide +kernel, rfl⟩
theorem kX6_saves_37 : Dk mtX6_saves 37 (.goto (-26)) 3 40 := ⟨by decide +kernel, rfl⟩
theorem kX6_saves_40 : Dk mtX6_saves 40 (.aload_n 0) 1 41 := ⟨by decide +kernel, rfl⟩
theorem kX6_saves_41 : Dk mtX6_saves 41 (.dup) 1 42 := ⟨by decide +kernel, rfl⟩
theorem kX6_saves_42 : Dk mtX6_saves 42 (.getfield 43) 3 45 := ⟨by decide +kernel, rfl⟩
theorem kX6_saves_45 : Dk mtX6_saves 45 (.iconst 1) 1 46 := ⟨by decide +kernel, rfl⟩
theorem kX6_saves_46 : Dk mtX6_saves 46 (.isub) 1 47 := ⟨by decide +kernel, rfl⟩
theorem kX6_saves_47 : Dk mtX6_saves 47 (.putfield 43) 3 50 := ⟨by decide +kernel, rfl⟩
theorem kX6_saves_50 : Dk mtX6_saves 50 (.iconst 0) 1 51 := ⟨by decide +kernel, rfl⟩
theorem kX6_saves_51 : Dk mtX6_saves 51 (.istore_n 1) 1 52 := ⟨by decide +kernel, rfl⟩
theorem kX6_saves_52 : Dk mtX6_saves 52 (.iload_n 1) 1 53 := ⟨by decide +kernel, rfl⟩
theorem kX6_saves_53 : Dk mtX6_saves 53 (.sipush 140) 3 56 := ⟨by decide +kernel, rfl⟩
theorem kX6_saves_56 : Dk mtX6_saves 56 (.if_icmp .ge 30) 3 59 := ⟨by decide +kernel, rfl⟩
theorem kX6_saves_59 : Dk mtX6_saves 59 (.aload_n 0) 1 60 := ⟨by decide +kernel, rfl⟩
theorem kX6_saves_60 : Dk mtX6_saves 60 (.getfield 16) 3 63 := ⟨by decide +kernel, rfl⟩
theorem kX6_saves_63 : Dk mtX6_saves 63 (.sipush 140) 3 66 := ⟨by decide +kernel, rfl⟩
theorem kX6_saves_66 : Dk mtX6_saves 66 (.aload_n 0) 1 67 := ⟨by decide +kernel, rfl⟩
theorem kX6_saves_67 : Dk mtX6_saves 67 (.getfield 43) 3 70 := ⟨by decide +kernel, rfl⟩
theorem kX6_saves_70 : Dk mtX6_saves 70 (.imul) 1 71 := ⟨by decide +kernel, rfl⟩
theorem kX6_saves_71 : Dk mtX6_saves 71 (.iload_n 1) 1 72 := ⟨by decide +kernel, rfl⟩
theorem kX6_saves_72 : Dk mtX6_saves 72 (.iadd) 1 73 := ⟨by decide +kernel, rfl⟩
theorem kX6_saves_73 : Dk mtX6_saves 73 (.aload_n 0) 1 74 := ⟨by decide +kernel, rfl⟩
theorem kX6_saves_74 : Dk mtX6_saves 74 (.getfield 7) 3 77 := ⟨by decide +kernel, rfl⟩
theorem kX6_saves_77 : Dk mtX6_saves 77 (.iload_n 1) 1 78 := ⟨by decide +kernel, rfl⟩
theorem kX6_saves_78 : Dk mtX6_saves 78 (.iaload) 1 79 := ⟨by decide +kernel, rfl⟩
theorem kX6_saves_79 : Dk mtX6_saves 79 (.iastore) 1 80 := ⟨by decide +kernel, rfl⟩
theorem kX6_saves_80 : Dk mtX6_saves 80 (.iinc 1 1) 3 83 := ⟨by decide +kernel, rfl⟩
theorem kX6_saves_83 : Dk mtX6_saves 83 (.goto (-31)) 3 86 := ⟨by decide +kernel, rfl⟩
theorem kX6_saves_86 : Dk mtX6_saves 86 (.aload_n 0) 1 87 := ⟨by decide +kernel, rfl⟩
theorem kX6_saves_87 : Dk mtX6_saves 87 (.dup) 1 88 := ⟨by decide +kernel, rfl⟩
theorem kX6_saves_88 : Dk mtX6_saves 88 (.getfield 43) 3 91 := ⟨by decide +kernel, rfl⟩
theorem kX6_saves_91 : Dk mtX6_saves 91 (.iconst 1) 1 92 := ⟨by decide +kernel, rfl⟩
theorem kX6_saves_92 : Dk mtX6_saves 92 (.iadd) 1 93 := ⟨by decide +kernel, rfl⟩
theorem kX6_saves_93 : Dk mtX6_saves 93 (.putfield 43) 3 96 := ⟨by decide +kernel, rfl⟩
theorem kX6_saves_96 : Dk mtX6_saves 96 (.return_) 1 97 := ⟨by decide +kernel, rfl⟩
theorem lfX6_43 : LkF RX6 43 6 4 := Or.inl (by decide +kernel)
theorem lfX6_16 : LkF RX6 16 6 3 := Or.inl (by decide +kernel)
set_option maxHeartbeats 4000000 in
set_option maxRecDepth 100000 in
theorem ct_saves {l : Launch} {w : Wd} {sg : Sg} (hWr : Wr w) {mo c : Nat} (hc : c ≤ 14) (ec : sg mo 4 = nI c) : M l mtX6_saves w [vR (some (6, 0, mo))] sg (fV0 (G_saves sg mo c)) := by
  refine M_of [some (vR (some (6, 0, mo))), none] rfl (Nat.le_of_ble_eq_true rfl) (by decide +kernel) ?_
  intro p_ e_ s_ m_ args_ below_ meth_ c_ hC hO
  refine V_joinS 50 (if c = 14 then ups (upr sg (mo + 3) (cpy (fun z => sg (mo + 3) (z + 140)) (sg (mo + 3)) 1820)) mo 4 13 else sg) ?_ (fun j50 => ?_)
  · generalize hg1 : (if c = 14 then ups (upr sg (mo + 3) (cpy (fun z => sg (mo + 3) (z + 140)) (sg (mo + 3)) 1820)) mo 4 13 else sg) = sg1
    have hs4 : sg1 mo 4 = nI (csv c) := by
      rw [← hg1]
      unfold csv
      split
      · rw [ups_at]; exact pk_us
      · exact ec
    have hs1 : sg1 (mo + 1) = sg (mo + 1) := by
      rw [← hg1]
      split
      · rw [ups_ne _ _ _ (by omega), upr_ne _ _ (by omega)]
      · rfl
    have hs3 : sg1 (mo + 3) = (if c = 14 then cpy (fun z => sg (mo + 3) (z + 140)) (sg (mo + 3)) 1820 else sg (mo + 3)) := by
      rw [← hg1]
      split
      · rw [ups_ne _ _ _ (by omega), upr_at]
      · rfl
    have hc13 := csv_le hc
    refine V_iconst hC (0) kX6_saves_50 (by decide) ?_
    refine V_istore_n hC [some _, some _] kX6_saves_51 rfl (Nat.le_of_ble_eq_true rfl) ?_
    refine V_canon (upr sg1 (mo + 3) (fb_put (sg1 (mo + 3)) (sg (mo + 1)) (140 * csv c) 0)) (by rw [fb_put_0, upr_self]) ?_
    refine V_loop 140 (fun i => [some (vR (some (6, 0, mo))), some (vI (nI i))]) (fun i => upr sg1 (mo + 3) (fb_put (sg1 (mo + 3)) (sg (mo + 1)) (140 * csv c) i)) rfl rfl ?_ (fun i hi ihi => ?_)
    · refine V_iload_n hC kX6_saves_52 rfl ?_
      refine V_sipush hC (140) kX6_saves_53 (by decide) ?_
      refine V_icmp_ge hC 86 kX6_saves_56 (by decide) (fun h56 => ?_) (fun h56 => absurd h56 (not_not_intro (nI_lit rfl)))
      refine V_aload_n hC kX6_saves_86 rfl ?_
      refine V_dup hC kX6_saves_87 rfl ?_
      refine V_getI hC 6 4 lfX6_43 kX6_saves_88 (Nat.le_of_ble_eq_true rfl) (Nat.le_of_ble_eq_true rfl) rfl ?_
      refine V_iconst hC (1) kX6_saves_91 (by decide) ?_
      refine V_iadd hC kX6_saves_92 ?_
      refine V_putI hC 6 4 lfX6_43 kX6_saves_93 (Nat.le_of_ble_eq_true rfl) (Nat.le_of_ble_eq_true rfl) rfl rfl ⟨rfl, rfl⟩ ?_
      refine V_vret hC rfl kX6_saves_96 ?_
      refine ⟨by with_reducible rfl, ?_⟩
      rw [upr_ne _ _ (by omega), hs4, nI_1, hs3]
      unfold G_saves F_sv
      rw [← hg1]
      unfold csv
      split
      · rw [← ups_upr (upr sg (mo + 3) _) (k := mo + 3) (k' := mo) 4 13 _ (by omega), upr_upr, ups_ups]
      · rfl
    · have he4 : upr sg1 (mo + 3) (fb_put (sg1 (mo + 3)) (sg (mo + 1)) (140 * csv c) i) mo 4 = nI (csv c) := by rw [upr_ne _ _ (by omega)]; exact hs4
      refine V_iload_n hC kX6_saves_52 rfl ?_
      refine V_sipush hC (140) kX6_saves_53 (by decide) ?_
      refine V_icmp_ge hC 86 kX6_saves_56 (by decide) (fun h56 => absurd h56 (by exact nI_ge (b := 140) hi (by decide))) (fun h56 => ?_)
      refine V_aload_n hC kX6_saves_59 rfl ?_
      refine V_getR hC hWr 6 3 lfX6_16 kX6_saves_60 (Nat.le_of_ble_eq_true rfl) (Nat.le_of_ble_eq_true rfl) rfl ?_
      refine V_sipush hC (140) kX6_saves_63 (by decide) ?_
      refine V_aload_n hC kX6_saves_66 rfl ?_
      refine V_getI hC 6 4 lfX6_43 kX6_saves_67 (Nat.le_of_ble_eq_true rfl) (Nat.le_of_ble_eq_true rfl) rfl ?_
      refine V_imul hC kX6_saves_70 ?_
      refine V_iload_n hC kX6_saves_71 rfl ?_
      refine V_iadd hC kX6_saves_72 ?_
      refine V_aload_n hC kX6_saves_73 rfl ?_
      refine V_getR hC hWr 6 1 lfX6_7 kX6_saves_74 (Nat.le_of_ble_eq_true rfl) (Nat.le_of_ble_eq_true rfl) rfl ?_
      refine V_iload_n hC kX6_saves_77 rfl ?_
      refine V_iald hC i (nI_clamp (by omega)) kX6_saves_78 (vp_in_nI hi (by decide)) ?_
      refine V_iast hC (140 * csv c + i) (ix_eq (a := 140) (by omega) rfl he4) kX6_saves_79 (ix_in (a := 140) (by omega) (by decide) rfl he4) ?_
      refine V_iinc hC (_ + 1) [some _, some _] kX6_saves_80 rfl rfl rfl (Nat.le_of_ble_eq_true rfl) ?_
      refine V_goto hC 52 kX6_saves_83 (by decide) ?_
      refine V_eq (by rw [nI_succ]) ?_ ihi
      unfold ups
      rw [upr_at, upr_upr, upr_ne _ _ (by omega), hs1, fb_put_succ]
  · refine V_aload_n hC kX6_saves_0 rfl ?_
    refine V_getI hC 6 4 lfX6_43 kX6_saves_1 (Nat.le_of_ble_eq_true rfl) (Nat.le_of_ble_eq_true rfl) rfl ?_
    refine V_bipush hC (14) kX6_saves_4 (by decide) ?_
    refine V_icmp_ne hC 50 kX6_saves_6 (by decide) (fun h6 => ?_) (fun h6 => ?_)
    · exact j50 _ (by rw [if_neg (fun z => h6 (by rw [ec, z]; rfl))])
    · have hc14 : c = 14 := by
        rw [ec] at h6
        exact (nI_eq (by omega) (by decide)).mp (h6.trans (show (14 : Int32) = nI 14 from rfl))
      refine V_iconst hC (0) kX6_saves_9 (by decide) ?_
      refine V_istore_n hC [some _, some _] kX6_saves_10 rfl (Nat.le_of_ble_eq_true rfl) ?_
      refine V_canon (upr sg (mo + 3) (cpy (fun z => sg (mo + 3) (z + 140)) (sg (mo + 3)) 0)) (by rw [cpy_0, upr_self]) ?_
      refine V_loop 1820 (fun i => [some (vR (some (6, 0, mo))), some (vI (nI i))]) (fun i => upr sg (mo + 3) (cpy (fun z => sg (mo + 3) (z + 140)) (sg (mo + 3)) i)) rfl rfl ?_ (fun i hi ihi => ?_)
      · refine V_iload_n hC kX6_saves_11 rfl ?_
        refine V_sipush hC (1820) kX6_saves_12 (by decide) ?_
        refine V_icmp_ge hC 40 kX6_saves_15 (by decide) (fun h15 => ?_) (fun h15 => absurd h15 (not_not_intro (nI_lit rfl)))
        refine V_aload_n hC kX6_saves_40 rfl ?_
        refine V_dup hC kX6_saves_41 rfl ?_
        refine V_getI hC 6 4 lfX6_43 kX6_saves_42 (Nat.le_of_ble_eq_true rfl) (Nat.le_of_ble_eq_true rfl) rfl ?_
        refine V_iconst hC (1) kX6_saves_45 (by decide) ?_
        refine V_isub hC kX6_saves_46 ?_
        refine V_putI hC 6 4 lfX6_43 kX6_saves_47 (Nat.le_of_ble_eq_true rfl) (Nat.le_of_ble_eq_true rfl) rfl rfl ⟨rfl, rfl⟩ ?_
        refine V_drop 1 [_, none] rfl ?_
        exact j50 _ (by rw [if_pos hc14, upr_ne _ _ (by omega), ec, hc14]; rfl)
      · refine V_iload_n hC kX6_saves_11 rfl ?_
        refine V_sipush hC (1820) kX6_saves_12 (by decide) ?_
        refine V_icmp_ge hC 40 kX6_saves_15 (by decide) (fun h15 => absurd h15 (by exact nI_ge (b := 1820) hi (by decide))) (fun h15 => ?_)
        refine V_aload_n hC kX6_saves_18 rfl ?_
        refine V_getR hC hWr 6 3 lfX6_16 kX6_saves_19 (Nat.le_of_ble_eq_true rfl) (Nat.le_of_ble_eq_true rfl) rfl ?_
        refine V_iload_n hC kX6_saves_22 rfl ?_
        refine V_aload_n hC kX6_saves_23 rfl ?_
        refine V_getR hC hWr 6 3 lfX6_16 kX6_saves_24 (Nat.le_of_ble_eq_true rfl) (Nat.le_of_ble_eq_true rfl) rfl ?_
        refine V_iload_n hC kX6_saves_27 rfl ?_
        refine V_sipush hC (140) kX6_saves_28 (by decide) ?_
        refine V_iadd hC kX6_saves_31 ?_
        refine V_iald hC (i + 140) (by rw [show nI i + 140 = nI (i + 140) from nI_add i 140]; exact nI_clamp (by omega)) kX6_saves_32 (by rw [show nI i + 140 = nI (i + 140) from nI_add i 140]; exact vp_in_nI (by omega) (by decide)) ?_
        refine V_iast hC i (nI_clamp (by omega)) kX6_saves_33 (vp_in_nI (by omega) (by decide)) ?_
        refine V_iinc hC (_ + 1) [some _, some _] kX6_saves_34 rfl rfl rfl (Nat.le_of_ble_eq_true rfl) ?_
        refine V_goto hC 11 kX6_saves_37 (by decide) ?_
        refine V_eq (by rw [nI_succ]) ?_ ihi
        unfold ups
        rw [upr_at, upr_upr, show cpy (fun z => sg (mo + 3) (z + 140)) (sg (mo + 3)) i (i + 140) = sg (mo + 3) (i + 140) from if_neg (by omega)]
        exact congrArg _ (cpy_s (fun z => sg (mo + 3) (z + 140)) _ i)
def mtX6_light : Mt := (yX6_light, cX6_light, 7, (some .int), 2, 47, 0, 0)
theorem kX6_light_0 : Dk mtX6_light 0 (.aload_n 0) 1 1 := ⟨by decide +kernel, rfl⟩
theorem kX6_light_1 : Dk mtX6_light 1 (.iconst 0) 1 2 := ⟨by decide +kernel, rfl⟩
theorem kX6_light_2 : Dk mtX6_light 2 (.putfield 32) 3 5 := ⟨by decide +kernel, rfl⟩
theorem kX6_light_5 : Dk mtX6_light 5 (.iload_n 1) 1 6 := ⟨by decide +kernel, rfl⟩
theorem kX6_light_6 : Dk mtX6_light 6 (.invokestatic 59) 3 9 := ⟨by decide +kernel, rfl⟩
theorem kX6_light_9 : Dk mtX6_light 9 (.ifCond .ne 9) 3 12 := ⟨by decide +kernel, rfl⟩
theorem kX6_light_12 : Dk mtX6_light 12 (.aload_n 0) 1 13 := ⟨by decide +kernel, rfl⟩
theorem kX6_light_13 : Dk mtX6_light 13 (.iconst 1) 1 14 := ⟨by decide +kernel, rfl⟩
theorem kX6_light_14 : Dk mtX6_light 14 (.invokevirtual 127) 3 17 := ⟨by decide +kernel, rfl⟩
theorem kX6_light_17 : Dk mtX6_light 17 (.ireturn) 1 18 := ⟨by decide +kernel, rfl⟩
theorem kX6_light_18 : Dk mtX6_light 18 (.iload_n 2) 1 19 := ⟨by decide +kernel, rfl⟩
theorem kX6_light_19 : Dk mtX6_light 19 (.iload_n 3) 1 20 := ⟨by decide +kernel, rfl⟩
theorem kX6_light_20 : Dk mtX6_light 20 (.iload 4) 2 22 := ⟨by decide +kernel, rfl⟩
theorem kX6_light_22 : Dk mtX6_light 22 (.iload 5) 2 24 := ⟨by decide +kernel, rfl⟩
theorem kX6_light_24 : Dk mtX6_light 24 (.iload 6) 2 26 := ⟨by decide +kernel, rfl⟩
theorem kX6_light_26 : Dk mtX6_light 26 (.invokestatic 97) 3 29 := ⟨by decide +kernel, rfl⟩
theorem kX6_light_29 : Dk mtX6_light 29 (.ifCond .ne 9) 3 32 := ⟨by decide +kernel, rfl⟩
theorem kX6_light_32 : Dk mtX6_light 32 (.aload_n 0) 1 33 := ⟨by decide +kernel, rfl⟩
theorem kX6_light_33 : Dk mtX6_light 33 (.iconst 2) 1 34 := ⟨by decide +kernel, rfl⟩
theorem kX6_light_34 : Dk mtX6_light 34 (.invokevirtual 127) 3 37 := ⟨by decide +kernel, rfl⟩
theorem kX6_light_37 : Dk mtX6_light 37 (.ireturn) 1 38 := ⟨by decide +kernel, rfl⟩
theorem kX6_light_38 : Dk mtX6_light 38 (.aload_n 0) 1 39 := ⟨by decide +kernel, rfl⟩
theorem kX6_light_39 : Dk mtX6_light 39 (.getfield 7) 3 42 := ⟨by decide +kernel, rfl⟩
theorem kX6_light_42 : Dk mtX6_light 42 (.iconst 4) 1 43 := ⟨by decide +kernel, rfl⟩
theorem kX6_light_43 : Dk mtX6_light 43 (.iaload) 1 44 := ⟨by decide +kernel, rfl⟩
theorem kX6_light_44 : Dk mtX6_light 44 (.bipush 6) 2 46 := ⟨by decide +kernel, rfl⟩
theorem kX6_light_46 : Dk mtX6_light 46 (.if_icmp .ne 9) 3 49 := ⟨by decide +kernel, rfl⟩
theorem kX6_light_49 : Dk mtX6_light 49 (.aload_n 0) 1 50 := ⟨by decide +kernel, rfl⟩
theorem kX6_light_50 : Dk mtX6_light 50 (.iconst 3) 1 51 := ⟨by decide +kernel, rfl⟩
theorem kX6_light_51 : Dk mtX6_light 51 (.invokevirtual 127) 3 54 := ⟨by decide +kernel, rfl⟩
theorem kX6_light_54 : Dk mtX6_light 54 (.ireturn) 1 55 := ⟨by decide +kernel, rfl⟩
theorem kX6_light_55 : Dk mtX6_light 55 (.aload_n 0) 1 56 := ⟨by decide +kernel, rfl⟩
theorem kX6_light_56 : Dk mtX6_light 56 (.invokevirtual 197) 3 59 := ⟨by decide +kernel, rfl⟩
theorem kX6_light_59 : Dk mtX6_light 59 (.aload_n 0) 1 60 := ⟨by decide +kernel, rfl⟩
theorem kX6_light_60 : Dk mtX6_light 60 (.iload_n 1) 1 61 := ⟨by decide +kernel, rfl⟩
theorem kX6_light_61 : Dk mtX6_light 61 (.iload_n 2) 1 62 := ⟨by decide +kernel, rfl⟩
theorem kX6_light_62 : Dk mtX6_light 62 (.iload_n 3) 1 63 := ⟨by decide +kernel, rfl⟩
theorem kX6_light_63 : Dk mtX6_light 63 (.iload 4) 2 65 := ⟨by decide +kernel, rfl⟩
theorem kX6_light_65 : Dk mtX6_light 65 (.iload 5) 2 67 := ⟨by decide +kernel, rfl⟩
theorem kX6_light_67 : Dk mtX6_light 67 (.iload 6) 2 69 := ⟨by decide +kernel, rfl⟩
theorem kX6_light_69 : Dk mtX6_light 69 (.invokevirtual 101) 3 72 := ⟨by decide +kernel, rfl⟩
theorem kX6_light_72 : Dk mtX6_light 72 (.ireturn) 1 73 := ⟨by decide +kernel, rfl⟩
theorem lmX6_197 : LkM RX6 197 mtX6_saves := Or.inl (by decide +kernel)
theorem mkX6_saves : MkV mtX6_saves 0 := ⟨List.mem_of_getElem? (i := 1281) (by decide +kernel), by decide +kernel, by decide +kernel, by decide +kernel, ⟨by decide +kernel, by decide +kernel, by decide +kernel⟩⟩
set_option maxHeartbeats 4000000 in
set_option maxRecDepth 100000 in
theorem ct_light {l : Launch} {w : Wd} {sg : Sg} (hWr : Wr w) {mo : Nat} (q st k n bo re : Int32) {c : Nat} (hc : c ≤ 14) (ec : sg mo 4 = nI c) (hI : Inv (sg (mo + 1))) : M l mtX6_light w [vR (some (6, 0, mo)), vI q, vI st, vI k, vI n, vI bo, vI re] sg (fM mo sg (K_light (sg (mo + 1)) q st k n bo re) (F_addLight (sg (mo + 1)) q st k n bo re 4 - 1) (upr (G_saves sg mo c) (mo + 1) (F_addLight (sg (mo + 1)) q st k n bo re))) := by
  refine M_of [some (vR (some (6, 0, mo))), some (vI q), some (vI st), some (vI k), some (vI n), some (vI bo), some (vI re)] rfl (Nat.le_of_ble_eq_true rfl) (by decide +kernel) ?_
  intro p_ e_ s_ m_ args_ below_ meth_ c_ hC hO
  refine V_aload_n hC kX6_light_0 rfl ?_
  refine V_iconst hC (0) kX6_light_1 (by decide) ?_
  refine V_putI hC 6 0 lfX6_32 kX6_light_2 (Nat.le_of_ble_eq_true rfl) (Nat.le_of_ble_eq_true rfl) rfl rfl ⟨rfl, rfl⟩ ?_
  refine V_nameS (fun sg0 e_sg0 => ?_)
  have hs1 : sg0 (mo + 1) = sg (mo + 1) := by rw [e_sg0]; exact upr_ne _ _ (by omega)
  have hs4 : sg0 mo 4 = sg mo 4 := by rw [e_sg0, ups_at]; exact pk_un (by decide)
  refine V_iload_n hC kX6_light_5 rfl ?_
  refine V_cS_fI hC (ct_isPlace hWr q) mkX6_isPlace lmX6_59 kX6_light_6 rfl rfl (Nat.le_of_ble_eq_true rfl) ⟨(Nat.le_of_ble_eq_true rfl), (Nat.le_of_ble_eq_true rfl)⟩ ⟨rfl, rfl⟩ ⟨(Nat.le_of_ble_eq_true rfl), (Nat.le_of_ble_eq_true rfl)⟩ ?_
  refine V_if_ne hC 18 kX6_light_9 (by decide) (fun h9 => ?_) (fun h9 => ?_)
  · refine V_iload_n hC kX6_light_18 rfl ?_
    refine V_iload_n hC kX6_light_19 rfl ?_
    refine V_iload hC kX6_light_20 rfl ?_
    refine V_iload hC kX6_light_22 rfl ?_
    refine V_iload hC kX6_light_24 rfl ?_
    refine V_cS_fI hC (ct_isLamp hWr _ _ _ _ _) mkX6_isLamp lmX6_97 kX6_light_26 rfl rfl (Nat.le_of_ble_eq_true rfl) ⟨(Nat.le_of_ble_eq_true rfl), (Nat.le_of_ble_eq_true rfl)⟩ ⟨rfl, rfl⟩ ⟨(Nat.le_of_ble_eq_true rfl), (Nat.le_of_ble_eq_true rfl)⟩ ?_
    refine V_if_ne hC 38 kX6_light_29 (by decide) (fun h29 => ?_) (fun h29 => ?_)
    · refine V_aload_n hC kX6_light_38 rfl ?_
      refine V_getR hC hWr 6 1 lfX6_7 kX6_light_39 (Nat.le_of_ble_eq_true rfl) (Nat.le_of_ble_eq_true rfl) rfl ?_
      refine V_iconst hC (4) kX6_light_42 (by decide) ?_
      refine V_iald hC 4 rfl kX6_light_43 (vp_lit rfl) ?_
      refine V_bipush hC (6) kX6_light_44 (by decide) ?_
      refine V_icmp_ne hC 55 kX6_light_46 (by decide) (fun h46 => ?_) (fun h46 => ?_)
      · refine V_aload_n hC kX6_light_55 rfl ?_
        refine V_cV_fV hC (ct_saves hWr hc (by rw [hs4]; exact ec)) mkX6_saves lmX6_197 kX6_light_56 (Nat.le_of_ble_eq_true rfl) rfl rfl rfl (Nat.le_of_ble_eq_true rfl) ⟨(Nat.le_of_ble_eq_true rfl), (Nat.le_of_ble_eq_true rfl)⟩ ⟨rfl, rfl⟩ ⟨(Nat.le_of_ble_eq_true rfl), (Nat.le_of_ble_eq_true rfl)⟩ ?_
        refine V_aload_n hC kX6_light_59 rfl ?_
        refine V_iload_n hC kX6_light_60 rfl ?_
        refine V_iload_n hC kX6_light_61 rfl ?_
        refine V_iload_n hC kX6_light_62 rfl ?_
        refine V_iload hC kX6_light_63 rfl ?_
        refine V_iload hC kX6_light_65 rfl ?_
        refine V_iload hC kX6_light_67 rfl ?_
        refine V_cV_fI hC (ct_addsLight hWr _ _ _ _ _ _ (by rw [saves_1, hs1]; exact nlt6 hI.hc4 (by rw [hs1] at h46; exact h46))) mkX6_addsLight lmX6_101 kX6_light_69 (Nat.le_of_ble_eq_true rfl) rfl rfl rfl (Nat.le_of_ble_eq_true rfl) ⟨(Nat.le_of_ble_eq_true rfl), (Nat.le_of_ble_eq_true rfl)⟩ ⟨rfl, rfl⟩ ⟨(Nat.le_of_ble_eq_true rfl), (Nat.le_of_ble_eq_true rfl)⟩ ?_
        refine V_ireti hC rfl kX6_light_72 ?_
        exact fM_ok (by rw [hs1] at h46; rw [K_light, if_pos (b01n.mp h9), if_pos (b01n.mp h29), if_neg h46]) (by rw [saves_1, hs1]) (by rw [saves_1, hs1, e_sg0, saves_thr, ups_upr _ _ _ _ (by omega)])
      · refine V_aload_n hC kX6_light_49 rfl ?_
        refine V_iconst hC (3) kX6_light_50 (by decide) ?_
        refine V_cV_fI hC (ct_fails hWr 3) mkX6_fails lmX6_127 kX6_light_51 (Nat.le_of_ble_eq_true rfl) rfl rfl rfl (Nat.le_of_ble_eq_true rfl) ⟨(Nat.le_of_ble_eq_true rfl), (Nat.le_of_ble_eq_true rfl)⟩ ⟨rfl, rfl⟩ ⟨(Nat.le_of_ble_eq_true rfl), (Nat.le_of_ble_eq_true rfl)⟩ ?_
        refine V_ireti hC rfl kX6_light_54 ?_
        exact fM_no 3 (by rw [hs1] at h46; rw [K_light, if_pos (b01n.mp h9), if_pos (b01n.mp h29), if_pos h46]) (by decide) (by rw [e_sg0, ups_ups])
    · refine V_aload_n hC kX6_light_32 rfl ?_
      refine V_iconst hC (2) kX6_light_33 (by decide) ?_
      refine V_cV_fI hC (ct_fails hWr 2) mkX6_fails lmX6_127 kX6_light_34 (Nat.le_of_ble_eq_true rfl) rfl rfl rfl (Nat.le_of_ble_eq_true rfl) ⟨(Nat.le_of_ble_eq_true rfl), (Nat.le_of_ble_eq_true rfl)⟩ ⟨rfl, rfl⟩ ⟨(Nat.le_of_ble_eq_true rfl), (Nat.le_of_ble_eq_true rfl)⟩ ?_
      refine V_ireti hC rfl kX6_light_37 ?_
      exact fM_no 2 (by rw [K_light, if_pos (b01n.mp h9), if_neg (b01e.mp h29)]) (by decide) (by rw [e_sg0, ups_ups])
  · refine V_aload_n hC kX6_light_12 rfl ?_
    refine V_iconst hC (1) kX6_light_13 (by decide) ?_
    refine V_cV_fI hC (ct_fails hWr 1) mkX6_fails lmX6_127 kX6_light_14 (Nat.le_of_ble_eq_true rfl) rfl rfl rfl (Nat.le_of_ble_eq_true rfl) ⟨(Nat.le_of_ble_eq_true rfl), (Nat.le_of_ble_eq_true rfl)⟩ ⟨rfl, rfl⟩ ⟨(Nat.le_of_ble_eq_true rfl), (Nat.le_of_ble_eq_true rfl)⟩ ?_
    refine V_ireti hC rfl kX6_light_17 ?_
    exact fM_no 1 (by rw [K_light, if_neg (b01e.mp h9)]) (by decide) (by rw [e_sg0, ups_ups])
def mtX6_boat : Mt := (yX6_boat, cX6_boat, 3, (some .int), 2, 46, 0, 0)
theorem kX6_boat_0 : Dk mtX6_boat 0 (.aload_n 0) 1 1 := ⟨by decide +kernel, rfl⟩
theorem kX6_boat_1 : Dk mtX6_boat 1 (.iconst 0) 1 2 := ⟨by decide +kernel, rfl⟩
theorem kX6_boat_2 : Dk mtX6_boat 2 (.putfield 32) 3 5 := ⟨by decide +kernel, rfl⟩
theorem kX6_boat_5 : Dk mtX6_boat 5 (.iload_n 1) 1 6 := ⟨by decide +kernel, rfl⟩
theorem kX6_boat_6 : Dk mtX6_boat 6 (.invokestatic 59) 3 9 := ⟨by decide +kernel, rfl⟩
theorem kX6_boat_9 : Dk mtX6_boat 9 (.ifCond .ne 9) 3 12 := ⟨by decide +kernel, rfl⟩
theorem kX6_boat_12 : Dk mtX6_boat 12 (.aload_n 0) 1 13 := ⟨by decide +kernel, rfl⟩
theorem kX6_boat_13 : Dk mtX6_boat 13 (.iconst 1) 1 14 := ⟨by decide +kernel, rfl⟩
theorem kX6_boat_14 : Dk mtX6_boat 14 (.invokevirtual 127) 3 17 := ⟨by decide +kernel, rfl⟩
theorem kX6_boat_17 : Dk mtX6_boat 17 (.ireturn) 1 18 := ⟨by decide +kernel, rfl⟩
theorem kX6_boat_18 : Dk mtX6_boat 18 (.iload_n 2) 1 19 := ⟨by decide +kernel, rfl⟩
theorem kX6_boat_19 : Dk mtX6_boat 19 (.bipush (-6)) 2 21 := ⟨by decide +kernel, rfl⟩
theorem kX6_boat_21 : Dk mtX6_boat 21 (.bipush 6) 2 23 := ⟨by decide +kernel, rfl⟩
theorem kX6_boat_23 : Dk mtX6_boat 23 (.invokestatic 39) 3 26 := ⟨by decide +kernel, rfl⟩
theorem kX6_boat_26 : Dk mtX6_boat 26 (.ifCond .ne 9) 3 29 := ⟨by decide +kernel, rfl⟩
theorem kX6_boat_29 : Dk mtX6_boat 29 (.aload_n 0) 1 30 := ⟨by decide +kernel, rfl⟩
theorem kX6_boat_30 : Dk mtX6_boat 30 (.iconst 2) 1 31 := ⟨by decide +kernel, rfl⟩
theorem kX6_boat_31 : Dk mtX6_boat 31 (.invokevirtual 127) 3 34 := ⟨by decide +kernel, rfl⟩
theorem kX6_boat_34 : Dk mtX6_boat 34 (.ireturn) 1 35 := ⟨by decide +kernel, rfl⟩
theorem kX6_boat_35 : Dk mtX6_boat 35 (.aload_n 0) 1 36 := ⟨by decide +kernel, rfl⟩
theorem kX6_boat_36 : Dk mtX6_boat 36 (.getfield 7) 3 39 := ⟨by decide +kernel, rfl⟩
theorem kX6_boat_39 : Dk mtX6_boat 39 (.iconst 5) 1 40 := ⟨by decide +kernel, rfl⟩
theorem kX6_boat_40 : Dk mtX6_boat 40 (.iaload) 1 41 := ⟨by decide +kernel, rfl⟩
theorem kX6_boat_41 : Dk mtX6_boat 41 (.bipush 8) 2 43 := ⟨by decide +kernel, rfl⟩
theorem kX6_boat_43 : Dk mtX6_boat 43 (.if_icmp .ne 9) 3 46 := ⟨by decide +kernel, rfl⟩
theorem kX6_boat_46 : Dk mtX6_boat 46 (.aload_n 0) 1 47 := ⟨by decide +kernel, rfl⟩
theorem kX6_boat_47 : Dk mtX6_boat 47 (.iconst 3) 1 48 := ⟨by decide +kernel, rfl⟩
theorem kX6_boat_48 : Dk mtX6_boat 48 (.invokevirtual 127) 3 51 := ⟨by decide +kernel, rfl⟩
theorem kX6_boat_51 : Dk mtX6_boat 51 (.ireturn) 1 52 := ⟨by decide +kernel, rfl⟩
theorem kX6_boat_52 : Dk mtX6_boat 52 (.aload_n 0) 1 53 := ⟨by decide +kernel, rfl⟩
theorem kX6_boat_53 : Dk mtX6_boat 53 (.invokevirtual 197) 3 56 := ⟨by decide +kernel, rfl⟩
theorem kX6_boat_56 : Dk mtX6_boat 56 (.aload_n 0) 1 57 := ⟨by decide +kernel, rfl⟩
theorem kX6_boat_57 : Dk mtX6_boat 57 (.iload_n 1) 1 58 := ⟨by decide +kernel, rfl⟩
theorem kX6_boat_58 : Dk mtX6_boat 58 (.iload_n 2) 1 59 := ⟨by decide +kernel, rfl⟩
theorem kX6_boat_59 : Dk mtX6_boat 59 (.invokevirtual 105) 3 62 := ⟨by decide +kernel, rfl⟩
theorem kX6_boat_62 : Dk mtX6_boat 62 (.ireturn) 1 63 := ⟨by decide +kernel, rfl⟩
set_option maxHeartbeats 4000000 in
set_option maxRecDepth 100000 in
theorem ct_boat {l : Launch} {w : Wd} {sg : Sg} (hWr : Wr w) {mo : Nat} (q v : Int32) {c : Nat} (hc : c ≤ 14) (ec : sg mo 4 = nI c) (hI : Inv (sg (mo + 1))) : M l mtX6_boat w [vR (some (6, 0, mo)), vI q, vI v] sg (fM mo sg (K_boat (sg (mo + 1)) q v) ((sg (mo + 1)) 5) (upr (G_saves sg mo c) (mo + 1) (F_addBoat (sg (mo + 1)) q v))) := by
  refine M_of [some (vR (some (6, 0, mo))), some (vI q), some (vI v)] rfl (Nat.le_of_ble_eq_true rfl) (by decide +kernel) ?_
  intro p_ e_ s_ m_ args_ below_ meth_ c_ hC hO
  refine V_aload_n hC kX6_boat_0 rfl ?_
  refine V_iconst hC (0) kX6_boat_1 (by decide) ?_
  refine V_putI hC 6 0 lfX6_32 kX6_boat_2 (Nat.le_of_ble_eq_true rfl) (Nat.le_of_ble_eq_true rfl) rfl rfl ⟨rfl, rfl⟩ ?_
  refine V_nameS (fun sg0 e_sg0 => ?_)
  have hs1 : sg0 (mo + 1) = sg (mo + 1) := by rw [e_sg0]; exact upr_ne _ _ (by omega)
  have hs4 : sg0 mo 4 = sg mo 4 := by rw [e_sg0, ups_at]; exact pk_un (by decide)
  refine V_iload_n hC kX6_boat_5 rfl ?_
  refine V_cS_fI hC (ct_isPlace hWr q) mkX6_isPlace lmX6_59 kX6_boat_6 rfl rfl (Nat.le_of_ble_eq_true rfl) ⟨(Nat.le_of_ble_eq_true rfl), (Nat.le_of_ble_eq_true rfl)⟩ ⟨rfl, rfl⟩ ⟨(Nat.le_of_ble_eq_true rfl), (Nat.le_of_ble_eq_true rfl)⟩ ?_
  refine V_if_ne hC 18 kX6_boat_9 (by decide) (fun h9 => ?_) (fun h9 => ?_)
  · refine V_iload_n hC kX6_boat_18 rfl ?_
    refine V_bipush hC (-6) kX6_boat_19 (by decide) ?_
    refine V_bipush hC (6) kX6_boat_21 (by decide) ?_
    refine V_cS_fI hC (ct_in hWr _ _ _) mkX6_in lmX6_39 kX6_boat_23 rfl rfl (Nat.le_of_ble_eq_true rfl) ⟨(Nat.le_of_ble_eq_true rfl), (Nat.le_of_ble_eq_true rfl)⟩ ⟨rfl, rfl⟩ ⟨(Nat.le_of_ble_eq_true rfl), (Nat.le_of_ble_eq_true rfl)⟩ ?_
    refine V_if_ne hC 35 kX6_boat_26 (by decide) (fun h26 => ?_) (fun h26 => ?_)
    · refine V_aload_n hC kX6_boat_35 rfl ?_
      refine V_getR hC hWr 6 1 lfX6_7 kX6_boat_36 (Nat.le_of_ble_eq_true rfl) (Nat.le_of_ble_eq_true rfl) rfl ?_
      refine V_iconst hC (5) kX6_boat_39 (by decide) ?_
      refine V_iald hC 5 rfl kX6_boat_40 (vp_lit rfl) ?_
      refine V_bipush hC (8) kX6_boat_41 (by decide) ?_
      refine V_icmp_ne hC 52 kX6_boat_43 (by decide) (fun h43 => ?_) (fun h43 => ?_)
      · refine V_aload_n hC kX6_boat_52 rfl ?_
        refine V_cV_fV hC (ct_saves hWr hc (by rw [hs4]; exact ec)) mkX6_saves lmX6_197 kX6_boat_53 (Nat.le_of_ble_eq_true rfl) rfl rfl rfl (Nat.le_of_ble_eq_true rfl) ⟨(Nat.le_of_ble_eq_true rfl), (Nat.le_of_ble_eq_true rfl)⟩ ⟨rfl, rfl⟩ ⟨(Nat.le_of_ble_eq_true rfl), (Nat.le_of_ble_eq_true rfl)⟩ ?_
        refine V_aload_n hC kX6_boat_56 rfl ?_
        refine V_iload_n hC kX6_boat_57 rfl ?_
        refine V_iload_n hC kX6_boat_58 rfl ?_
        refine V_cV_fI hC (ct_addsBoat hWr _ _ (by rw [saves_1, hs1]; exact nlt8 hI.hc5 (by rw [hs1] at h43; exact h43))) mkX6_addsBoat lmX6_105 kX6_boat_59 (Nat.le_of_ble_eq_true rfl) rfl rfl rfl (Nat.le_of_ble_eq_true rfl) ⟨(Nat.le_of_ble_eq_true rfl), (Nat.le_of_ble_eq_true rfl)⟩ ⟨rfl, rfl⟩ ⟨(Nat.le_of_ble_eq_true rfl), (Nat.le_of_ble_eq_true rfl)⟩ ?_
        refine V_ireti hC rfl kX6_boat_62 ?_
        exact fM_ok (by rw [hs1] at h43; rw [K_boat, if_pos (b01n.mp h9), if_pos (b01n.mp h26), if_neg h43]) (by rw [saves_1, hs1]) (by rw [saves_1, hs1, e_sg0, saves_thr, ups_upr _ _ _ _ (by omega)])
      · refine V_aload_n hC kX6_boat_46 rfl ?_
        refine V_iconst hC (3) kX6_boat_47 (by decide) ?_
        refine V_cV_fI hC (ct_fails hWr 3) mkX6_fails lmX6_127 kX6_boat_48 (Nat.le_of_ble_eq_true rfl) rfl rfl rfl (Nat.le_of_ble_eq_true rfl) ⟨(Nat.le_of_ble_eq_true rfl), (Nat.le_of_ble_eq_true rfl)⟩ ⟨rfl, rfl⟩ ⟨(Nat.le_of_ble_eq_true rfl), (Nat.le_of_ble_eq_true rfl)⟩ ?_
        refine V_ireti hC rfl kX6_boat_51 ?_
        exact fM_no 3 (by rw [hs1] at h43; rw [K_boat, if_pos (b01n.mp h9), if_pos (b01n.mp h26), if_pos h43]) (by decide) (by rw [e_sg0, ups_ups])
    · refine V_aload_n hC kX6_boat_29 rfl ?_
      refine V_iconst hC (2) kX6_boat_30 (by decide) ?_
      refine V_cV_fI hC (ct_fails hWr 2) mkX6_fails lmX6_127 kX6_boat_31 (Nat.le_of_ble_eq_true rfl) rfl rfl rfl (Nat.le_of_ble_eq_true rfl) ⟨(Nat.le_of_ble_eq_true rfl), (Nat.le_of_ble_eq_true rfl)⟩ ⟨rfl, rfl⟩ ⟨(Nat.le_of_ble_eq_true rfl), (Nat.le_of_ble_eq_true rfl)⟩ ?_
      refine V_ireti hC rfl kX6_boat_34 ?_
      exact fM_no 2 (by rw [K_boat, if_pos (b01n.mp h9), if_neg (b01e.mp h26)]) (by decide) (by rw [e_sg0, ups_ups])
  · refine V_aload_n hC kX6_boat_12 rfl ?_
    refine V_iconst hC (1) kX6_boat_13 (by decide) ?_
    refine V_cV_fI hC (ct_fails hWr 1) mkX6_fails lmX6_127 kX6_boat_14 (Nat.le_of_ble_eq_true rfl) rfl rfl rfl (Nat.le_of_ble_eq_true rfl) ⟨(Nat.le_of_ble_eq_true rfl), (Nat.le_of_ble_eq_true rfl)⟩ ⟨rfl, rfl⟩ ⟨(Nat.le_of_ble_eq_true rfl), (Nat.le_of_ble_eq_true rfl)⟩ ?_
    refine V_ireti hC rfl kX6_boat_17 ?_
    exact fM_no 1 (by rw [K_boat, if_neg (b01e.mp h9)]) (by decide) (by rw [e_sg0, ups_ups])
def mtX6_steer : Mt := (yX6_steer, cX6_steer, 4, (some .int), 3, 66, 0, 0)
theorem kX6_steer_0 : Dk mtX6_steer 0 (.aload_n 0) 1 1 := ⟨by decide +kernel, rfl⟩
theorem kX6_steer_1 : Dk mtX6_steer 1 (.iconst 0) 1 2 := ⟨by decide +kernel, rfl⟩
theorem kX6_steer_2 : Dk mtX6_steer 2 (.putfield 32) 3 5 := ⟨by decide +kernel, rfl⟩
theorem kX6_steer_5 : Dk mtX6_steer 5 (.aload_n 0) 1 6 := ⟨by decide +kernel, rfl⟩
theorem kX6_steer_6 : Dk mtX6_steer 6 (.iload_n 1) 1 7 := ⟨by decide +kernel, rfl⟩
theorem kX6_steer_7 : Dk mtX6_steer 7 (.invokevirtual 108) 3 10 := ⟨by decide +kernel, rfl⟩
theorem kX6_steer_10 : Dk mtX6_steer 10 (.ifCond .ne 9) 3 13 := ⟨by decide +kernel, rfl⟩
theorem kX6_steer_13 : Dk mtX6_steer 13 (.aload_n 0) 1 14 := ⟨by decide +kernel, rfl⟩
theorem kX6_steer_14 : Dk mtX6_steer 14 (.iconst 1) 1 15 := ⟨by decide +kernel, rfl⟩
theorem kX6_steer_15 : Dk mtX6_steer 15 (.invokevirtual 127) 3 18 := ⟨by decide +kernel, rfl⟩
theorem kX6_steer_18 : Dk mtX6_steer 18 (.ireturn) 1 19 := ⟨by decide +kernel, rfl⟩
theorem kX6_steer_19 : Dk mtX6_steer 19 (.iload_n 2) 1 20 := ⟨by decide +kernel, rfl⟩
theorem kX6_steer_20 : Dk mtX6_steer 20 (.bipush (-6)) 2 22 := ⟨by decide +kernel, rfl⟩
theorem kX6_steer_22 : Dk mtX6_steer 22 (.bipush 6) 2 24 := ⟨by decide +kernel, rfl⟩
theorem kX6_steer_24 : Dk mtX6_steer 24 (.invokestatic 39) 3 27 := ⟨by decide +kernel, rfl⟩
theorem kX6_steer_27 : Dk mtX6_steer 27 (.ifCond .ne 9) 3 30 := ⟨by decide +kernel, rfl⟩
theorem kX6_steer_30 : Dk mtX6_steer 30 (.aload_n 0) 1 31 := ⟨by decide +kernel, rfl⟩
theorem kX6_steer_31 : Dk mtX6_steer 31 (.iconst 2) 1 32 := ⟨by decide +kernel, rfl⟩
theorem kX6_steer_32 : Dk mtX6_steer 32 (.invokevirtual 127) 3 35 := ⟨by decide +kernel, rfl⟩
theorem kX6_steer_35 : Dk mtX6_steer 35 (.ireturn) 1 36 := ⟨by decide +kernel, rfl⟩
theorem kX6_steer_36 : Dk mtX6_steer 36 (.aload_n 0) 1 37 := ⟨by decide +kernel, rfl⟩
theorem kX6_steer_37 : Dk mtX6_steer 37 (.invokevirtual 197) 3 40 := ⟨by decide +kernel, rfl⟩
theorem kX6_steer_40 : Dk mtX6_steer 40 (.aload_n 0) 1 41 := ⟨by decide +kernel, rfl⟩
theorem kX6_steer_41 : Dk mtX6_steer 41 (.iload_n 1) 1 42 := ⟨by decide +kernel, rfl⟩
theorem kX6_steer_42 : Dk mtX6_steer 42 (.iconst 1) 1 43 := ⟨by decide +kernel, rfl⟩
theorem kX6_steer_43 : Dk mtX6_steer 43 (.invokevirtual 53) 3 46 := ⟨by decide +kernel, rfl⟩
theorem kX6_steer_46 : Dk mtX6_steer 46 (.istore_n 3) 1 47 := ⟨by decide +kernel, rfl⟩
theorem kX6_steer_47 : Dk mtX6_steer 47 (.aload_n 0) 1 48 := ⟨by decide +kernel, rfl⟩
theorem kX6_steer_48 : Dk mtX6_steer 48 (.iload_n 1) 1 49 := ⟨by decide +kernel, rfl⟩
theorem kX6_steer_49 : Dk mtX6_steer 49 (.iload_n 2) 1 50 := ⟨by decide +kernel, rfl⟩
theorem kX6_steer_50 : Dk mtX6_steer 50 (.invokevirtual 157) 3 53 := ⟨by decide +kernel, rfl⟩
theorem kX6_steer_53 : Dk mtX6_steer 53 (.pop) 1 54 := ⟨by decide +kernel, rfl⟩
theorem kX6_steer_54 : Dk mtX6_steer 54 (.iload_n 3) 1 55 := ⟨by decide +kernel, rfl⟩
theorem kX6_steer_55 : Dk mtX6_steer 55 (.ireturn) 1 56 := ⟨by decide +kernel, rfl⟩
theorem lmX6_157 : LkM RX6 157 mtX6_actsSteer := Or.inl (by decide +kernel)
theorem mkX6_actsSteer : MkV mtX6_actsSteer 2 := ⟨List.mem_of_getElem? (i := 1143) (by decide +kernel), by decide +kernel, by decide +kernel, by decide +kernel, ⟨by decide +kernel, by decide +kernel, by decide +kernel⟩⟩
set_option maxHeartbeats 4000000 in
set_option maxRecDepth 100000 in
theorem ct_steer {l : Launch} {w : Wd} {sg : Sg} (hWr : Wr w) {mo : Nat} (b v : Int32) {c : Nat} (hc : c ≤ 14) (ec : sg mo 4 = nI c) (hI : Inv (sg (mo + 1))) : M l mtX6_steer w [vR (some (6, 0, mo)), vI b, vI v] sg (fM mo sg (K_steer (sg (mo + 1)) b v) (gB (sg (mo + 1)) b 1) (upr (G_saves sg mo c) (mo + 1) (pB (sg (mo + 1)) b 1 v))) := by
  refine M_of [some (vR (some (6, 0, mo))), some (vI b), some (vI v), none] rfl (Nat.le_of_ble_eq_true rfl) (by decide +kernel) ?_
  intro p_ e_ s_ m_ args_ below_ meth_ c_ hC hO
  refine V_aload_n hC kX6_steer_0 rfl ?_
  refine V_iconst hC (0) kX6_steer_1 (by decide) ?_
  refine V_putI hC 6 0 lfX6_32 kX6_steer_2 (Nat.le_of_ble_eq_true rfl) (Nat.le_of_ble_eq_true rfl) rfl rfl ⟨rfl, rfl⟩ ?_
  refine V_nameS (fun sg0 e_sg0 => ?_)
  have hs1 : sg0 (mo + 1) = sg (mo + 1) := by rw [e_sg0]; exact upr_ne _ _ (by omega)
  have hs4 : sg0 mo 4 = sg mo 4 := by rw [e_sg0, ups_at]; exact pk_un (by decide)
  refine V_aload_n hC kX6_steer_5 rfl ?_
  refine V_iload_n hC kX6_steer_6 rfl ?_
  refine V_cV_fI hC (ct_isBoat hWr b) mkX6_isBoat lmX6_108 kX6_steer_7 (Nat.le_of_ble_eq_true rfl) rfl rfl rfl (Nat.le_of_ble_eq_true rfl) ⟨(Nat.le_of_ble_eq_true rfl), (Nat.le_of_ble_eq_true rfl)⟩ ⟨rfl, rfl⟩ ⟨(Nat.le_of_ble_eq_true rfl), (Nat.le_of_ble_eq_true rfl)⟩ ?_
  refine V_if_ne hC 19 kX6_steer_10 (by decide) (fun h10 => ?_) (fun h10 => ?_)
  · refine V_iload_n hC kX6_steer_19 rfl ?_
    refine V_bipush hC (-6) kX6_steer_20 (by decide) ?_
    refine V_bipush hC (6) kX6_steer_22 (by decide) ?_
    refine V_cS_fI hC (ct_in hWr _ _ _) mkX6_in lmX6_39 kX6_steer_24 rfl rfl (Nat.le_of_ble_eq_true rfl) ⟨(Nat.le_of_ble_eq_true rfl), (Nat.le_of_ble_eq_true rfl)⟩ ⟨rfl, rfl⟩ ⟨(Nat.le_of_ble_eq_true rfl), (Nat.le_of_ble_eq_true rfl)⟩ ?_
    refine V_if_ne hC 36 kX6_steer_27 (by decide) (fun h27 => ?_) (fun h27 => ?_)
    · refine V_aload_n hC kX6_steer_36 rfl ?_
      refine V_cV_fV hC (ct_saves hWr hc (by rw [hs4]; exact ec)) mkX6_saves lmX6_197 kX6_steer_37 (Nat.le_of_ble_eq_true rfl) rfl rfl rfl (Nat.le_of_ble_eq_true rfl) ⟨(Nat.le_of_ble_eq_true rfl), (Nat.le_of_ble_eq_true rfl)⟩ ⟨rfl, rfl⟩ ⟨(Nat.le_of_ble_eq_true rfl), (Nat.le_of_ble_eq_true rfl)⟩ ?_
      have hb := b01n.mp (hs1 ▸ h10)
      have hcc : cSteer (sg (mo + 1)) b v := ⟨hb, b01n.mp h27⟩
      refine V_aload_n hC kX6_steer_40 rfl ?_
      refine V_iload_n hC kX6_steer_41 rfl ?_
      refine V_iconst hC (1) kX6_steer_42 (by decide) ?_
      refine V_cV_fI hC (ct_ofBoat hWr b 1 (vpB hI.hc5 hb) (vp_lit rfl)) mkX6_ofBoat lmX6_53 kX6_steer_43 (Nat.le_of_ble_eq_true rfl) rfl rfl rfl (Nat.le_of_ble_eq_true rfl) ⟨(Nat.le_of_ble_eq_true rfl), (Nat.le_of_ble_eq_true rfl)⟩ ⟨rfl, rfl⟩ ⟨(Nat.le_of_ble_eq_true rfl), (Nat.le_of_ble_eq_true rfl)⟩ ?_
      refine V_nameI (fun had e_had => ?_)
      refine V_istore_n hC [some _, some _, some _, some _] kX6_steer_46 rfl (Nat.le_of_ble_eq_true rfl) ?_
      refine V_aload_n hC kX6_steer_47 rfl ?_
      refine V_iload_n hC kX6_steer_48 rfl ?_
      refine V_iload_n hC kX6_steer_49 rfl ?_
      refine V_cV_fI hC (ct_actsSteer hWr b v (by rw [saves_1, hs1]; exact hI.hc5)) mkX6_actsSteer lmX6_157 kX6_steer_50 (Nat.le_of_ble_eq_true rfl) rfl rfl rfl (Nat.le_of_ble_eq_true rfl) ⟨(Nat.le_of_ble_eq_true rfl), (Nat.le_of_ble_eq_true rfl)⟩ ⟨rfl, rfl⟩ ⟨(Nat.le_of_ble_eq_true rfl), (Nat.le_of_ble_eq_true rfl)⟩ ?_
      refine V_pop hC kX6_steer_53 rfl ?_
      refine V_iload_n hC kX6_steer_54 rfl ?_
      refine V_ireti hC rfl kX6_steer_55 ?_
      rw [saves_1, hs1] at e_had ⊢
      rw [if_pos hcc]
      exact fM_ok (by rw [K_steer, if_pos hb, if_pos hcc.2]) e_had (by rw [e_sg0, saves_thr, ups_upr _ _ _ _ (by omega)])
    · refine V_aload_n hC kX6_steer_30 rfl ?_
      refine V_iconst hC (2) kX6_steer_31 (by decide) ?_
      refine V_cV_fI hC (ct_fails hWr 2) mkX6_fails lmX6_127 kX6_steer_32 (Nat.le_of_ble_eq_true rfl) rfl rfl rfl (Nat.le_of_ble_eq_true rfl) ⟨(Nat.le_of_ble_eq_true rfl), (Nat.le_of_ble_eq_true rfl)⟩ ⟨rfl, rfl⟩ ⟨(Nat.le_of_ble_eq_true rfl), (Nat.le_of_ble_eq_true rfl)⟩ ?_
      refine V_ireti hC rfl kX6_steer_35 ?_
      exact fM_no 2 (by rw [hs1] at h10; rw [K_steer, if_pos (b01n.mp h10), if_neg (b01e.mp h27)]) (by decide) (by rw [e_sg0, ups_ups])
  · refine V_aload_n hC kX6_steer_13 rfl ?_
    refine V_iconst hC (1) kX6_steer_14 (by decide) ?_
    refine V_cV_fI hC (ct_fails hWr 1) mkX6_fails lmX6_127 kX6_steer_15 (Nat.le_of_ble_eq_true rfl) rfl rfl rfl (Nat.le_of_ble_eq_true rfl) ⟨(Nat.le_of_ble_eq_true rfl), (Nat.le_of_ble_eq_true rfl)⟩ ⟨rfl, rfl⟩ ⟨(Nat.le_of_ble_eq_true rfl), (Nat.le_of_ble_eq_true rfl)⟩ ?_
    refine V_ireti hC rfl kX6_steer_18 ?_
    exact fM_no 1 (by rw [hs1] at h10; rw [K_steer, if_neg (b01e.mp h10)]) (by decide) (by rw [e_sg0, ups_ups])
def mtX6_talk : Mt := (yX6_talk, cX6_talk, 4, (some .int), 3, 66, 0, 0)
theorem kX6_talk_0 : Dk mtX6_talk 0 (.aload_n 0) 1 1 := ⟨by decide +kernel, rfl⟩
theorem kX6_talk_1 : Dk mtX6_talk 1 (.iconst 0) 1 2 := ⟨by decide +kernel, rfl⟩
theorem kX6_talk_2 : Dk mtX6_talk 2 (.putfield 32) 3 5 := ⟨by decide +kernel, rfl⟩
theorem kX6_talk_5 : Dk mtX6_talk 5 (.aload_n 0) 1 6 := ⟨by decide +kernel, rfl⟩
theorem kX6_talk_6 : Dk mtX6_talk 6 (.iload_n 1) 1 7 := ⟨by decide +kernel, rfl⟩
theorem kX6_talk_7 : Dk mtX6_talk 7 (.invokevirtual 108) 3 10 := ⟨by decide +kernel, rfl⟩
theorem kX6_talk_10 : Dk mtX6_talk 10 (.ifCond .ne 9) 3 13 := ⟨by decide +kernel, rfl⟩
theorem kX6_talk_13 : Dk mtX6_talk 13 (.aload_n 0) 1 14 := ⟨by decide +kernel, rfl⟩
theorem kX6_talk_14 : Dk mtX6_talk 14 (.iconst 1) 1 15 := ⟨by decide +kernel, rfl⟩
theorem kX6_talk_15 : Dk mtX6_talk 15 (.invokevirtual 127) 3 18 := ⟨by decide +kernel, rfl⟩
theorem kX6_talk_18 : Dk mtX6_talk 18 (.ireturn) 1 19 := ⟨by decide +kernel, rfl⟩
theorem kX6_talk_19 : Dk mtX6_talk 19 (.iload_n 2) 1 20 := ⟨by decide +kernel, rfl⟩
theorem kX6_talk_20 : Dk mtX6_talk 20 (.iconst 1) 1 21 := ⟨by decide +kernel, rfl⟩
theorem kX6_talk_21 : Dk mtX6_talk 21 (.bipush 99) 2 23 := ⟨by decide +kernel, rfl⟩
theorem kX6_talk_23 : Dk mtX6_talk 23 (.invokestatic 39) 3 26 := ⟨by decide +kernel, rfl⟩
theorem kX6_talk_26 : Dk mtX6_talk 26 (.ifCond .ne 9) 3 29 := ⟨by decide +kernel, rfl⟩
theorem kX6_talk_29 : Dk mtX6_talk 29 (.aload_n 0) 1 30 := ⟨by decide +kernel, rfl⟩
theorem kX6_talk_30 : Dk mtX6_talk 30 (.iconst 2) 1 31 := ⟨by decide +kernel, rfl⟩
theorem kX6_talk_31 : Dk mtX6_talk 31 (.invokevirtual 127) 3 34 := ⟨by decide +kernel, rfl⟩
theorem kX6_talk_34 : Dk mtX6_talk 34 (.ireturn) 1 35 := ⟨by decide +kernel, rfl⟩
theorem kX6_talk_35 : Dk mtX6_talk 35 (.aload_n 0) 1 36 := ⟨by decide +kernel, rfl⟩
theorem kX6_talk_36 : Dk mtX6_talk 36 (.iload_n 1) 1 37 := ⟨by decide +kernel, rfl⟩
theorem kX6_talk_37 : Dk mtX6_talk 37 (.invokevirtual 111) 3 40 := ⟨by decide +kernel, rfl⟩
theorem kX6_talk_40 : Dk mtX6_talk 40 (.ifCond .ne 9) 3 43 := ⟨by decide +kernel, rfl⟩
theorem kX6_talk_43 : Dk mtX6_talk 43 (.aload_n 0) 1 44 := ⟨by decide +kernel, rfl⟩
theorem kX6_talk_44 : Dk mtX6_talk 44 (.iconst 3) 1 45 := ⟨by decide +kernel, rfl⟩
theorem kX6_talk_45 : Dk mtX6_talk 45 (.invokevirtual 127) 3 48 := ⟨by decide +kernel, rfl⟩
theorem kX6_talk_48 : Dk mtX6_talk 48 (.ireturn) 1 49 := ⟨by decide +kernel, rfl⟩
theorem kX6_talk_49 : Dk mtX6_talk 49 (.aload_n 0) 1 50 := ⟨by decide +kernel, rfl⟩
theorem kX6_talk_50 : Dk mtX6_talk 50 (.invokevirtual 197) 3 53 := ⟨by decide +kernel, rfl⟩
theorem kX6_talk_53 : Dk mtX6_talk 53 (.aload_n 0) 1 54 := ⟨by decide +kernel, rfl⟩
theorem kX6_talk_54 : Dk mtX6_talk 54 (.iload_n 1) 1 55 := ⟨by decide +kernel, rfl⟩
theorem kX6_talk_55 : Dk mtX6_talk 55 (.iconst 3) 1 56 := ⟨by decide +kernel, rfl⟩
theorem kX6_talk_56 : Dk mtX6_talk 56 (.invokevirtual 53) 3 59 := ⟨by decide +kernel, rfl⟩
theorem kX6_talk_59 : Dk mtX6_talk 59 (.istore_n 3) 1 60 := ⟨by decide +kernel, rfl⟩
theorem kX6_talk_60 : Dk mtX6_talk 60 (.aload_n 0) 1 61 := ⟨by decide +kernel, rfl⟩
theorem kX6_talk_61 : Dk mtX6_talk 61 (.iload_n 1) 1 62 := ⟨by decide +kernel, rfl⟩
theorem kX6_talk_62 : Dk mtX6_talk 62 (.iload_n 2) 1 63 := ⟨by decide +kernel, rfl⟩
theorem kX6_talk_63 : Dk mtX6_talk 63 (.invokevirtual 160) 3 66 := ⟨by decide +kernel, rfl⟩
theorem kX6_talk_66 : Dk mtX6_talk 66 (.pop) 1 67 := ⟨by decide +kernel, rfl⟩
theorem kX6_talk_67 : Dk mtX6_talk 67 (.iload_n 3) 1 68 := ⟨by decide +kernel, rfl⟩
theorem kX6_talk_68 : Dk mtX6_talk 68 (.ireturn) 1 69 := ⟨by decide +kernel, rfl⟩
theorem lmX6_160 : LkM RX6 160 mtX6_actsTalk := Or.inl (by decide +kernel)
theorem mkX6_actsTalk : MkV mtX6_actsTalk 2 := ⟨List.mem_of_getElem? (i := 1151) (by decide +kernel), by decide +kernel, by decide +kernel, by decide +kernel, ⟨by decide +kernel, by decide +kernel, by decide +kernel⟩⟩
set_option maxHeartbeats 4000000 in
set_option maxRecDepth 100000 in
theorem ct_talk {l : Launch} {w : Wd} {sg : Sg} (hWr : Wr w) {mo : Nat} (b v : Int32) {c : Nat} (hc : c ≤ 14) (ec : sg mo 4 = nI c) (hI : Inv (sg (mo + 1))) : M l mtX6_talk w [vR (some (6, 0, mo)), vI b, vI v] sg (fM mo sg (K_talk (sg (mo + 1)) b v) (gB (sg (mo + 1)) b 3) (upr (G_saves sg mo c) (mo + 1) (pB (sg (mo + 1)) b 3 v))) := by
  refine M_of [some (vR (some (6, 0, mo))), some (vI b), some (vI v), none] rfl (Nat.le_of_ble_eq_true rfl) (by decide +kernel) ?_
  intro p_ e_ s_ m_ args_ below_ meth_ c_ hC hO
  refine V_aload_n hC kX6_talk_0 rfl ?_
  refine V_iconst hC (0) kX6_talk_1 (by decide) ?_
  refine V_putI hC 6 0 lfX6_32 kX6_talk_2 (Nat.le_of_ble_eq_true rfl) (Nat.le_of_ble_eq_true rfl) rfl rfl ⟨rfl, rfl⟩ ?_
  refine V_nameS (fun sg0 e_sg0 => ?_)
  have hs1 : sg0 (mo + 1) = sg (mo + 1) := by rw [e_sg0]; exact upr_ne _ _ (by omega)
  have hs4 : sg0 mo 4 = sg mo 4 := by rw [e_sg0, ups_at]; exact pk_un (by decide)
  refine V_aload_n hC kX6_talk_5 rfl ?_
  refine V_iload_n hC kX6_talk_6 rfl ?_
  refine V_cV_fI hC (ct_isBoat hWr b) mkX6_isBoat lmX6_108 kX6_talk_7 (Nat.le_of_ble_eq_true rfl) rfl rfl rfl (Nat.le_of_ble_eq_true rfl) ⟨(Nat.le_of_ble_eq_true rfl), (Nat.le_of_ble_eq_true rfl)⟩ ⟨rfl, rfl⟩ ⟨(Nat.le_of_ble_eq_true rfl), (Nat.le_of_ble_eq_true rfl)⟩ ?_
  refine V_if_ne hC 19 kX6_talk_10 (by decide) (fun h10 => ?_) (fun h10 => ?_)
  · refine V_iload_n hC kX6_talk_19 rfl ?_
    refine V_iconst hC (1) kX6_talk_20 (by decide) ?_
    refine V_bipush hC (99) kX6_talk_21 (by decide) ?_
    refine V_cS_fI hC (ct_in hWr _ _ _) mkX6_in lmX6_39 kX6_talk_23 rfl rfl (Nat.le_of_ble_eq_true rfl) ⟨(Nat.le_of_ble_eq_true rfl), (Nat.le_of_ble_eq_true rfl)⟩ ⟨rfl, rfl⟩ ⟨(Nat.le_of_ble_eq_true rfl), (Nat.le_of_ble_eq_true rfl)⟩ ?_
    refine V_if_ne hC 35 kX6_talk_26 (by decide) (fun h26 => ?_) (fun h26 => ?_)
    · have hb := b01n.mp (hs1 ▸ h10)
      refine V_aload_n hC kX6_talk_35 rfl ?_
      refine V_iload_n hC kX6_talk_36 rfl ?_
      refine V_cV_fI hC (ct_canTalk hWr b (vpB hI.hc5 hb)) mkX6_canTalk lmX6_111 kX6_talk_37 (Nat.le_of_ble_eq_true rfl) rfl rfl rfl (Nat.le_of_ble_eq_true rfl) ⟨(Nat.le_of_ble_eq_true rfl), (Nat.le_of_ble_eq_true rfl)⟩ ⟨rfl, rfl⟩ ⟨(Nat.le_of_ble_eq_true rfl), (Nat.le_of_ble_eq_true rfl)⟩ ?_
      refine V_if_ne hC 49 kX6_talk_40 (by decide) (fun h40 => ?_) (fun h40 => ?_)
      · refine V_aload_n hC kX6_talk_49 rfl ?_
        refine V_cV_fV hC (ct_saves hWr hc (by rw [hs4]; exact ec)) mkX6_saves lmX6_197 kX6_talk_50 (Nat.le_of_ble_eq_true rfl) rfl rfl rfl (Nat.le_of_ble_eq_true rfl) ⟨(Nat.le_of_ble_eq_true rfl), (Nat.le_of_ble_eq_true rfl)⟩ ⟨rfl, rfl⟩ ⟨(Nat.le_of_ble_eq_true rfl), (Nat.le_of_ble_eq_true rfl)⟩ ?_
        have hcc : cTalk (sg (mo + 1)) b v := ⟨hb, b01n.mp h26, b01n.mp (hs1 ▸ h40)⟩
        refine V_aload_n hC kX6_talk_53 rfl ?_
        refine V_iload_n hC kX6_talk_54 rfl ?_
        refine V_iconst hC (3) kX6_talk_55 (by decide) ?_
        refine V_cV_fI hC (ct_ofBoat hWr b 3 (vpB hI.hc5 hb) (vp_lit rfl)) mkX6_ofBoat lmX6_53 kX6_talk_56 (Nat.le_of_ble_eq_true rfl) rfl rfl rfl (Nat.le_of_ble_eq_true rfl) ⟨(Nat.le_of_ble_eq_true rfl), (Nat.le_of_ble_eq_true rfl)⟩ ⟨rfl, rfl⟩ ⟨(Nat.le_of_ble_eq_true rfl), (Nat.le_of_ble_eq_true rfl)⟩ ?_
        refine V_nameI (fun had e_had => ?_)
        refine V_istore_n hC [some _, some _, some _, some _] kX6_talk_59 rfl (Nat.le_of_ble_eq_true rfl) ?_
        refine V_aload_n hC kX6_talk_60 rfl ?_
        refine V_iload_n hC kX6_talk_61 rfl ?_
        refine V_iload_n hC kX6_talk_62 rfl ?_
        refine V_cV_fI hC (ct_actsTalk hWr b v (by rw [saves_1, hs1]; exact hI.hc5)) mkX6_actsTalk lmX6_160 kX6_talk_63 (Nat.le_of_ble_eq_true rfl) rfl rfl rfl (Nat.le_of_ble_eq_true rfl) ⟨(Nat.le_of_ble_eq_true rfl), (Nat.le_of_ble_eq_true rfl)⟩ ⟨rfl, rfl⟩ ⟨(Nat.le_of_ble_eq_true rfl), (Nat.le_of_ble_eq_true rfl)⟩ ?_
        refine V_pop hC kX6_talk_66 rfl ?_
        refine V_iload_n hC kX6_talk_67 rfl ?_
        refine V_ireti hC rfl kX6_talk_68 ?_
        rw [saves_1, hs1] at e_had ⊢
        rw [if_pos hcc]
        exact fM_ok (by rw [K_talk, if_pos hb, if_pos hcc.2.1, if_pos hcc.2.2]) e_had (by rw [e_sg0, saves_thr, ups_upr _ _ _ _ (by omega)])
      · refine V_aload_n hC kX6_talk_43 rfl ?_
        refine V_iconst hC (3) kX6_talk_44 (by decide) ?_
        refine V_cV_fI hC (ct_fails hWr 3) mkX6_fails lmX6_127 kX6_talk_45 (Nat.le_of_ble_eq_true rfl) rfl rfl rfl (Nat.le_of_ble_eq_true rfl) ⟨(Nat.le_of_ble_eq_true rfl), (Nat.le_of_ble_eq_true rfl)⟩ ⟨rfl, rfl⟩ ⟨(Nat.le_of_ble_eq_true rfl), (Nat.le_of_ble_eq_true rfl)⟩ ?_
        refine V_ireti hC rfl kX6_talk_48 ?_
        exact fM_no 3 (by rw [hs1] at h40; rw [K_talk, if_pos hb, if_pos (b01n.mp h26), if_neg (b01e.mp h40)]) (by decide) (by rw [e_sg0, ups_ups])
    · refine V_aload_n hC kX6_talk_29 rfl ?_
      refine V_iconst hC (2) kX6_talk_30 (by decide) ?_
      refine V_cV_fI hC (ct_fails hWr 2) mkX6_fails lmX6_127 kX6_talk_31 (Nat.le_of_ble_eq_true rfl) rfl rfl rfl (Nat.le_of_ble_eq_true rfl) ⟨(Nat.le_of_ble_eq_true rfl), (Nat.le_of_ble_eq_true rfl)⟩ ⟨rfl, rfl⟩ ⟨(Nat.le_of_ble_eq_true rfl), (Nat.le_of_ble_eq_true rfl)⟩ ?_
      refine V_ireti hC rfl kX6_talk_34 ?_
      exact fM_no 2 (by rw [hs1] at h10; rw [K_talk, if_pos (b01n.mp h10), if_neg (b01e.mp h26)]) (by decide) (by rw [e_sg0, ups_ups])
  · refine V_aload_n hC kX6_talk_13 rfl ?_
    refine V_iconst hC (1) kX6_talk_14 (by decide) ?_
    refine V_cV_fI hC (ct_fails hWr 1) mkX6_fails lmX6_127 kX6_talk_15 (Nat.le_of_ble_eq_true rfl) rfl rfl rfl (Nat.le_of_ble_eq_true rfl) ⟨(Nat.le_of_ble_eq_true rfl), (Nat.le_of_ble_eq_true rfl)⟩ ⟨rfl, rfl⟩ ⟨(Nat.le_of_ble_eq_true rfl), (Nat.le_of_ble_eq_true rfl)⟩ ?_
    refine V_ireti hC rfl kX6_talk_18 ?_
    exact fM_no 1 (by rw [hs1] at h10; rw [K_talk, if_neg (b01e.mp h10)]) (by decide) (by rw [e_sg0, ups_ups])
def mtX6_lean : Mt := (yX6_lean, cX6_lean, 4, (some .int), 3, 66, 0, 0)
theorem kX6_lean_0 : Dk mtX6_lean 0 (.aload_n 0) 1 1 := ⟨by decide +kernel, rfl⟩
theorem kX6_lean_1 : Dk mtX6_lean 1 (.iconst 0) 1 2 := ⟨by decide +kernel, rfl⟩
theorem kX6_lean_2 : Dk mtX6_lean 2 (.putfield 32) 3 5 := ⟨by decide +kernel, rfl⟩
theorem kX6_lean_5 : Dk mtX6_lean 5 (.aload_n 0) 1 6 := ⟨by decide +kernel, rfl⟩
theorem kX6_lean_6 : Dk mtX6_lean 6 (.iload_n 1) 1 7 := ⟨by decide +kernel, rfl⟩
theorem kX6_lean_7 : Dk mtX6_lean 7 (.invokevirtual 114) 3 10 := ⟨by decide +kernel, rfl⟩
theorem kX6_lean_10 : Dk mtX6_lean 10 (.ifCond .ne 9) 3 13 := ⟨by decide +kernel, rfl⟩
theorem kX6_lean_13 : Dk mtX6_lean 13 (.aload_n 0) 1 14 := ⟨by decide +kernel, rfl⟩
theorem kX6_lean_14 : Dk mtX6_lean 14 (.iconst 1) 1 15 := ⟨by decide +kernel, rfl⟩
theorem kX6_lean_15 : Dk mtX6_lean 15 (.invokevirtual 127) 3 18 := ⟨by decide +kernel, rfl⟩
theorem kX6_lean_18 : Dk mtX6_lean 18 (.ireturn) 1 19 := ⟨by decide +kernel, rfl⟩
theorem kX6_lean_19 : Dk mtX6_lean 19 (.iload_n 2) 1 20 := ⟨by decide +kernel, rfl⟩
theorem kX6_lean_20 : Dk mtX6_lean 20 (.bipush (-30)) 2 22 := ⟨by decide +kernel, rfl⟩
theorem kX6_lean_22 : Dk mtX6_lean 22 (.bipush 30) 2 24 := ⟨by decide +kernel, rfl⟩
theorem kX6_lean_24 : Dk mtX6_lean 24 (.invokestatic 39) 3 27 := ⟨by decide +kernel, rfl⟩
theorem kX6_lean_27 : Dk mtX6_lean 27 (.ifCond .ne 9) 3 30 := ⟨by decide +kernel, rfl⟩
theorem kX6_lean_30 : Dk mtX6_lean 30 (.aload_n 0) 1 31 := ⟨by decide +kernel, rfl⟩
theorem kX6_lean_31 : Dk mtX6_lean 31 (.iconst 2) 1 32 := ⟨by decide +kernel, rfl⟩
theorem kX6_lean_32 : Dk mtX6_lean 32 (.invokevirtual 127) 3 35 := ⟨by decide +kernel, rfl⟩
theorem kX6_lean_35 : Dk mtX6_lean 35 (.ireturn) 1 36 := ⟨by decide +kernel, rfl⟩
theorem kX6_lean_36 : Dk mtX6_lean 36 (.aload_n 0) 1 37 := ⟨by decide +kernel, rfl⟩
theorem kX6_lean_37 : Dk mtX6_lean 37 (.invokevirtual 197) 3 40 := ⟨by decide +kernel, rfl⟩
theorem kX6_lean_40 : Dk mtX6_lean 40 (.aload_n 0) 1 41 := ⟨by decide +kernel, rfl⟩
theorem kX6_lean_41 : Dk mtX6_lean 41 (.iload_n 1) 1 42 := ⟨by decide +kernel, rfl⟩
theorem kX6_lean_42 : Dk mtX6_lean 42 (.bipush 6) 2 44 := ⟨by decide +kernel, rfl⟩
theorem kX6_lean_44 : Dk mtX6_lean 44 (.invokevirtual 46) 3 47 := ⟨by decide +kernel, rfl⟩
theorem kX6_lean_47 : Dk mtX6_lean 47 (.istore_n 3) 1 48 := ⟨by decide +kernel, rfl⟩
theorem kX6_lean_48 : Dk mtX6_lean 48 (.aload_n 0) 1 49 := ⟨by decide +kernel, rfl⟩
theorem kX6_lean_49 : Dk mtX6_lean 49 (.iload_n 1) 1 50 := ⟨by decide +kernel, rfl⟩
theorem kX6_lean_50 : Dk mtX6_lean 50 (.iload_n 2) 1 51 := ⟨by decide +kernel, rfl⟩
theorem kX6_lean_51 : Dk mtX6_lean 51 (.invokevirtual 200) 3 54 := ⟨by decide +kernel, rfl⟩
theorem kX6_lean_54 : Dk mtX6_lean 54 (.pop) 1 55 := ⟨by decide +kernel, rfl⟩
theorem kX6_lean_55 : Dk mtX6_lean 55 (.iload_n 3) 1 56 := ⟨by decide +kernel, rfl⟩
theorem kX6_lean_56 : Dk mtX6_lean 56 (.ireturn) 1 57 := ⟨by decide +kernel, rfl⟩
theorem lmX6_200 : LkM RX6 200 mtX6_actsLean := Or.inl (by decide +kernel)
theorem mkX6_actsLean : MkV mtX6_actsLean 2 := ⟨List.mem_of_getElem? (i := 1301) (by decide +kernel), by decide +kernel, by decide +kernel, by decide +kernel, ⟨by decide +kernel, by decide +kernel, by decide +kernel⟩⟩
set_option maxHeartbeats 4000000 in
set_option maxRecDepth 100000 in
theorem ct_lean {l : Launch} {w : Wd} {sg : Sg} (hWr : Wr w) {mo : Nat} (a v : Int32) {c : Nat} (hc : c ≤ 14) (ec : sg mo 4 = nI c) (hI : Inv (sg (mo + 1))) : M l mtX6_lean w [vR (some (6, 0, mo)), vI a, vI v] sg (fM mo sg (K_lean (sg (mo + 1)) a v) (gL (sg (mo + 1)) a 6) (upr (G_saves sg mo c) (mo + 1) (F_lean (sg (mo + 1)) a v))) := by
  refine M_of [some (vR (some (6, 0, mo))), some (vI a), some (vI v), none] rfl (Nat.le_of_ble_eq_true rfl) (by decide +kernel) ?_
  intro p_ e_ s_ m_ args_ below_ meth_ c_ hC hO
  refine V_aload_n hC kX6_lean_0 rfl ?_
  refine V_iconst hC (0) kX6_lean_1 (by decide) ?_
  refine V_putI hC 6 0 lfX6_32 kX6_lean_2 (Nat.le_of_ble_eq_true rfl) (Nat.le_of_ble_eq_true rfl) rfl rfl ⟨rfl, rfl⟩ ?_
  refine V_nameS (fun sg0 e_sg0 => ?_)
  have hs1 : sg0 (mo + 1) = sg (mo + 1) := by rw [e_sg0]; exact upr_ne _ _ (by omega)
  have hs4 : sg0 mo 4 = sg mo 4 := by rw [e_sg0, ups_at]; exact pk_un (by decide)
  refine V_aload_n hC kX6_lean_5 rfl ?_
  refine V_iload_n hC kX6_lean_6 rfl ?_
  refine V_cV_fI hC (ct_isLight hWr a) mkX6_isLight lmX6_114 kX6_lean_7 (Nat.le_of_ble_eq_true rfl) rfl rfl rfl (Nat.le_of_ble_eq_true rfl) ⟨(Nat.le_of_ble_eq_true rfl), (Nat.le_of_ble_eq_true rfl)⟩ ⟨rfl, rfl⟩ ⟨(Nat.le_of_ble_eq_true rfl), (Nat.le_of_ble_eq_true rfl)⟩ ?_
  refine V_if_ne hC 19 kX6_lean_10 (by decide) (fun h10 => ?_) (fun h10 => ?_)
  · refine V_iload_n hC kX6_lean_19 rfl ?_
    refine V_bipush hC (-30) kX6_lean_20 (by decide) ?_
    refine V_bipush hC (30) kX6_lean_22 (by decide) ?_
    refine V_cS_fI hC (ct_in hWr _ _ _) mkX6_in lmX6_39 kX6_lean_24 rfl rfl (Nat.le_of_ble_eq_true rfl) ⟨(Nat.le_of_ble_eq_true rfl), (Nat.le_of_ble_eq_true rfl)⟩ ⟨rfl, rfl⟩ ⟨(Nat.le_of_ble_eq_true rfl), (Nat.le_of_ble_eq_true rfl)⟩ ?_
    refine V_if_ne hC 36 kX6_lean_27 (by decide) (fun h27 => ?_) (fun h27 => ?_)
    · refine V_aload_n hC kX6_lean_36 rfl ?_
      refine V_cV_fV hC (ct_saves hWr hc (by rw [hs4]; exact ec)) mkX6_saves lmX6_197 kX6_lean_37 (Nat.le_of_ble_eq_true rfl) rfl rfl rfl (Nat.le_of_ble_eq_true rfl) ⟨(Nat.le_of_ble_eq_true rfl), (Nat.le_of_ble_eq_true rfl)⟩ ⟨rfl, rfl⟩ ⟨(Nat.le_of_ble_eq_true rfl), (Nat.le_of_ble_eq_true rfl)⟩ ?_
      have hb := b01n.mp (hs1 ▸ h10)
      have hcc : cLean (sg (mo + 1)) a v := ⟨hb, b01n.mp h27⟩
      refine V_aload_n hC kX6_lean_40 rfl ?_
      refine V_iload_n hC kX6_lean_41 rfl ?_
      refine V_bipush hC (6) kX6_lean_42 (by decide) ?_
      refine V_cV_fI hC (ct_of hWr a 6 (vpL hI.hc4 hb) (vp_lit rfl)) mkX6_of lmX6_46 kX6_lean_44 (Nat.le_of_ble_eq_true rfl) rfl rfl rfl (Nat.le_of_ble_eq_true rfl) ⟨(Nat.le_of_ble_eq_true rfl), (Nat.le_of_ble_eq_true rfl)⟩ ⟨rfl, rfl⟩ ⟨(Nat.le_of_ble_eq_true rfl), (Nat.le_of_ble_eq_true rfl)⟩ ?_
      refine V_nameI (fun had e_had => ?_)
      refine V_istore_n hC [some _, some _, some _, some _] kX6_lean_47 rfl (Nat.le_of_ble_eq_true rfl) ?_
      refine V_aload_n hC kX6_lean_48 rfl ?_
      refine V_iload_n hC kX6_lean_49 rfl ?_
      refine V_iload_n hC kX6_lean_50 rfl ?_
      refine V_cV_fI hC (ct_actsLean hWr a v (by rw [saves_1, hs1]; exact hI.hc4)) mkX6_actsLean lmX6_200 kX6_lean_51 (Nat.le_of_ble_eq_true rfl) rfl rfl rfl (Nat.le_of_ble_eq_true rfl) ⟨(Nat.le_of_ble_eq_true rfl), (Nat.le_of_ble_eq_true rfl)⟩ ⟨rfl, rfl⟩ ⟨(Nat.le_of_ble_eq_true rfl), (Nat.le_of_ble_eq_true rfl)⟩ ?_
      refine V_pop hC kX6_lean_54 rfl ?_
      refine V_iload_n hC kX6_lean_55 rfl ?_
      refine V_ireti hC rfl kX6_lean_56 ?_
      rw [saves_1, hs1] at e_had ⊢
      rw [if_pos hcc]
      exact fM_ok (by rw [K_lean, if_pos hb, if_pos hcc.2]) e_had (by rw [e_sg0, saves_thr, ups_upr _ _ _ _ (by omega)])
    · refine V_aload_n hC kX6_lean_30 rfl ?_
      refine V_iconst hC (2) kX6_lean_31 (by decide) ?_
      refine V_cV_fI hC (ct_fails hWr 2) mkX6_fails lmX6_127 kX6_lean_32 (Nat.le_of_ble_eq_true rfl) rfl rfl rfl (Nat.le_of_ble_eq_true rfl) ⟨(Nat.le_of_ble_eq_true rfl), (Nat.le_of_ble_eq_true rfl)⟩ ⟨rfl, rfl⟩ ⟨(Nat.le_of_ble_eq_true rfl), (Nat.le_of_ble_eq_true rfl)⟩ ?_
      refine V_ireti hC rfl kX6_lean_35 ?_
      exact fM_no 2 (by rw [hs1] at h10; rw [K_lean, if_pos (b01n.mp h10), if_neg (b01e.mp h27)]) (by decide) (by rw [e_sg0, ups_ups])
  · refine V_aload_n hC kX6_lean_13 rfl ?_
    refine V_iconst hC (1) kX6_lean_14 (by decide) ?_
    refine V_cV_fI hC (ct_fails hWr 1) mkX6_fails lmX6_127 kX6_lean_15 (Nat.le_of_ble_eq_true rfl) rfl rfl rfl (Nat.le_of_ble_eq_true rfl) ⟨(Nat.le_of_ble_eq_true rfl), (Nat.le_of_ble_eq_true rfl)⟩ ⟨rfl, rfl⟩ ⟨(Nat.le_of_ble_eq_true rfl), (Nat.le_of_ble_eq_true rfl)⟩ ?_
    refine V_ireti hC rfl kX6_lean_18 ?_
    exact fM_no 1 (by rw [hs1] at h10; rw [K_lean, if_neg (b01e.mp h10)]) (by decide) (by rw [e_sg0, ups_ups])
def mtX6_dim : Mt := (yX6_dim, cX6_dim, 4, (some .int), 3, 66, 0, 0)
theorem kX6_dim_0 : Dk mtX6_dim 0 (.aload_n 0) 1 1 := ⟨by decide +kernel, rfl⟩
theorem kX6_dim_1 : Dk mtX6_dim 1 (.iconst 0) 1 2 := ⟨by decide +kernel, rfl⟩
theorem kX6_dim_2 : Dk mtX6_dim 2 (.putfield 32) 3 5 := ⟨by decide +kernel, rfl⟩
theorem kX6_dim_5 : Dk mtX6_dim 5 (.aload_n 0) 1 6 := ⟨by decide +kernel, rfl⟩
theorem kX6_dim_6 : Dk mtX6_dim 6 (.iload_n 1) 1 7 := ⟨by decide +kernel, rfl⟩
theorem kX6_dim_7 : Dk mtX6_dim 7 (.invokevirtual 114) 3 10 := ⟨by decide +kernel, rfl⟩
theorem kX6_dim_10 : Dk mtX6_dim 10 (.ifCond .ne 9) 3 13 := ⟨by decide +kernel, rfl⟩
theorem kX6_dim_13 : Dk mtX6_dim 13 (.aload_n 0) 1 14 := ⟨by decide +kernel, rfl⟩
theorem kX6_dim_14 : Dk mtX6_dim 14 (.iconst 1) 1 15 := ⟨by decide +kernel, rfl⟩
theorem kX6_dim_15 : Dk mtX6_dim 15 (.invokevirtual 127) 3 18 := ⟨by decide +kernel, rfl⟩
theorem kX6_dim_18 : Dk mtX6_dim 18 (.ireturn) 1 19 := ⟨by decide +kernel, rfl⟩
theorem kX6_dim_19 : Dk mtX6_dim 19 (.iload_n 2) 1 20 := ⟨by decide +kernel, rfl⟩
theorem kX6_dim_20 : Dk mtX6_dim 20 (.bipush 10) 2 22 := ⟨by decide +kernel, rfl⟩
theorem kX6_dim_22 : Dk mtX6_dim 22 (.bipush 99) 2 24 := ⟨by decide +kernel, rfl⟩
theorem kX6_dim_24 : Dk mtX6_dim 24 (.invokestatic 39) 3 27 := ⟨by decide +kernel, rfl⟩
theorem kX6_dim_27 : Dk mtX6_dim 27 (.ifCond .ne 9) 3 30 := ⟨by decide +kernel, rfl⟩
theorem kX6_dim_30 : Dk mtX6_dim 30 (.aload_n 0) 1 31 := ⟨by decide +kernel, rfl⟩
theorem kX6_dim_31 : Dk mtX6_dim 31 (.iconst 2) 1 32 := ⟨by decide +kernel, rfl⟩
theorem kX6_dim_32 : Dk mtX6_dim 32 (.invokevirtual 127) 3 35 := ⟨by decide +kernel, rfl⟩
theorem kX6_dim_35 : Dk mtX6_dim 35 (.ireturn) 1 36 := ⟨by decide +kernel, rfl⟩
theorem kX6_dim_36 : Dk mtX6_dim 36 (.aload_n 0) 1 37 := ⟨by decide +kernel, rfl⟩
theorem kX6_dim_37 : Dk mtX6_dim 37 (.invokevirtual 197) 3 40 := ⟨by decide +kernel, rfl⟩
theorem kX6_dim_40 : Dk mtX6_dim 40 (.aload_n 0) 1 41 := ⟨by decide +kernel, rfl⟩
theorem kX6_dim_41 : Dk mtX6_dim 41 (.iload_n 1) 1 42 := ⟨by decide +kernel, rfl⟩
theorem kX6_dim_42 : Dk mtX6_dim 42 (.iconst 1) 1 43 := ⟨by decide +kernel, rfl⟩
theorem kX6_dim_43 : Dk mtX6_dim 43 (.invokevirtual 46) 3 46 := ⟨by decide +kernel, rfl⟩
theorem kX6_dim_46 : Dk mtX6_dim 46 (.istore_n 3) 1 47 := ⟨by decide +kernel, rfl⟩
theorem kX6_dim_47 : Dk mtX6_dim 47 (.aload_n 0) 1 48 := ⟨by decide +kernel, rfl⟩
theorem kX6_dim_48 : Dk mtX6_dim 48 (.iload_n 1) 1 49 := ⟨by decide +kernel, rfl⟩
theorem kX6_dim_49 : Dk mtX6_dim 49 (.iload_n 2) 1 50 := ⟨by decide +kernel, rfl⟩
theorem kX6_dim_50 : Dk mtX6_dim 50 (.invokevirtual 203) 3 53 := ⟨by decide +kernel, rfl⟩
theorem kX6_dim_53 : Dk mtX6_dim 53 (.pop) 1 54 := ⟨by decide +kernel, rfl⟩
theorem kX6_dim_54 : Dk mtX6_dim 54 (.iload_n 3) 1 55 := ⟨by decide +kernel, rfl⟩
theorem kX6_dim_55 : Dk mtX6_dim 55 (.ireturn) 1 56 := ⟨by decide +kernel, rfl⟩
theorem lmX6_203 : LkM RX6 203 mtX6_actsDim := Or.inl (by decide +kernel)
theorem mkX6_actsDim : MkV mtX6_actsDim 2 := ⟨List.mem_of_getElem? (i := 1309) (by decide +kernel), by decide +kernel, by decide +kernel, by decide +kernel, ⟨by decide +kernel, by decide +kernel, by decide +kernel⟩⟩
set_option maxHeartbeats 4000000 in
set_option maxRecDepth 100000 in
theorem ct_dim {l : Launch} {w : Wd} {sg : Sg} (hWr : Wr w) {mo : Nat} (a v : Int32) {c : Nat} (hc : c ≤ 14) (ec : sg mo 4 = nI c) (hI : Inv (sg (mo + 1))) : M l mtX6_dim w [vR (some (6, 0, mo)), vI a, vI v] sg (fM mo sg (K_dim (sg (mo + 1)) a v) (gL (sg (mo + 1)) a 1) (upr (G_saves sg mo c) (mo + 1) (F_dim (sg (mo + 1)) a v))) := by
  refine M_of [some (vR (some (6, 0, mo))), some (vI a), some (vI v), none] rfl (Nat.le_of_ble_eq_true rfl) (by decide +kernel) ?_
  intro p_ e_ s_ m_ args_ below_ meth_ c_ hC hO
  refine V_aload_n hC kX6_dim_0 rfl ?_
  refine V_iconst hC (0) kX6_dim_1 (by decide) ?_
  refine V_putI hC 6 0 lfX6_32 kX6_dim_2 (Nat.le_of_ble_eq_true rfl) (Nat.le_of_ble_eq_true rfl) rfl rfl ⟨rfl, rfl⟩ ?_
  refine V_nameS (fun sg0 e_sg0 => ?_)
  have hs1 : sg0 (mo + 1) = sg (mo + 1) := by rw [e_sg0]; exact upr_ne _ _ (by omega)
  have hs4 : sg0 mo 4 = sg mo 4 := by rw [e_sg0, ups_at]; exact pk_un (by decide)
  refine V_aload_n hC kX6_dim_5 rfl ?_
  refine V_iload_n hC kX6_dim_6 rfl ?_
  refine V_cV_fI hC (ct_isLight hWr a) mkX6_isLight lmX6_114 kX6_dim_7 (Nat.le_of_ble_eq_true rfl) rfl rfl rfl (Nat.le_of_ble_eq_true rfl) ⟨(Nat.le_of_ble_eq_true rfl), (Nat.le_of_ble_eq_true rfl)⟩ ⟨rfl, rfl⟩ ⟨(Nat.le_of_ble_eq_true rfl), (Nat.le_of_ble_eq_true rfl)⟩ ?_
  refine V_if_ne hC 19 kX6_dim_10 (by decide) (fun h10 => ?_) (fun h10 => ?_)
  · refine V_iload_n hC kX6_dim_19 rfl ?_
    refine V_bipush hC (10) kX6_dim_20 (by decide) ?_
    refine V_bipush hC (99) kX6_dim_22 (by decide) ?_
    refine V_cS_fI hC (ct_in hWr _ _ _) mkX6_in lmX6_39 kX6_dim_24 rfl rfl (Nat.le_of_ble_eq_true rfl) ⟨(Nat.le_of_ble_eq_true rfl), (Nat.le_of_ble_eq_true rfl)⟩ ⟨rfl, rfl⟩ ⟨(Nat.le_of_ble_eq_true rfl), (Nat.le_of_ble_eq_true rfl)⟩ ?_
    refine V_if_ne hC 36 kX6_dim_27 (by decide) (fun h27 => ?_) (fun h27 => ?_)
    · refine V_aload_n hC kX6_dim_36 rfl ?_
      refine V_cV_fV hC (ct_saves hWr hc (by rw [hs4]; exact ec)) mkX6_saves lmX6_197 kX6_dim_37 (Nat.le_of_ble_eq_true rfl) rfl rfl rfl (Nat.le_of_ble_eq_true rfl) ⟨(Nat.le_of_ble_eq_true rfl), (Nat.le_of_ble_eq_true rfl)⟩ ⟨rfl, rfl⟩ ⟨(Nat.le_of_ble_eq_true rfl), (Nat.le_of_ble_eq_true rfl)⟩ ?_
      have hb := b01n.mp (hs1 ▸ h10)
      have hcc : cDim (sg (mo + 1)) a v := ⟨hb, b01n.mp h27⟩
      refine V_aload_n hC kX6_dim_40 rfl ?_
      refine V_iload_n hC kX6_dim_41 rfl ?_
      refine V_iconst hC (1) kX6_dim_42 (by decide) ?_
      refine V_cV_fI hC (ct_of hWr a 1 (vpL hI.hc4 hb) (vp_lit rfl)) mkX6_of lmX6_46 kX6_dim_43 (Nat.le_of_ble_eq_true rfl) rfl rfl rfl (Nat.le_of_ble_eq_true rfl) ⟨(Nat.le_of_ble_eq_true rfl), (Nat.le_of_ble_eq_true rfl)⟩ ⟨rfl, rfl⟩ ⟨(Nat.le_of_ble_eq_true rfl), (Nat.le_of_ble_eq_true rfl)⟩ ?_
      refine V_nameI (fun had e_had => ?_)
      refine V_istore_n hC [some _, some _, some _, some _] kX6_dim_46 rfl (Nat.le_of_ble_eq_true rfl) ?_
      refine V_aload_n hC kX6_dim_47 rfl ?_
      refine V_iload_n hC kX6_dim_48 rfl ?_
      refine V_iload_n hC kX6_dim_49 rfl ?_
      refine V_cV_fI hC (ct_actsDim hWr a v (by rw [saves_1, hs1]; exact hI.hc4)) mkX6_actsDim lmX6_203 kX6_dim_50 (Nat.le_of_ble_eq_true rfl) rfl rfl rfl (Nat.le_of_ble_eq_true rfl) ⟨(Nat.le_of_ble_eq_true rfl), (Nat.le_of_ble_eq_true rfl)⟩ ⟨rfl, rfl⟩ ⟨(Nat.le_of_ble_eq_true rfl), (Nat.le_of_ble_eq_true rfl)⟩ ?_
      refine V_pop hC kX6_dim_53 rfl ?_
      refine V_iload_n hC kX6_dim_54 rfl ?_
      refine V_ireti hC rfl kX6_dim_55 ?_
      rw [saves_1, hs1] at e_had ⊢
      rw [if_pos hcc]
      exact fM_ok (by rw [K_dim, if_pos hb, if_pos hcc.2]) e_had (by rw [e_sg0, saves_thr, ups_upr _ _ _ _ (by omega)])
    · refine V_aload_n hC kX6_dim_30 rfl ?_
      refine V_iconst hC (2) kX6_dim_31 (by decide) ?_
      refine V_cV_fI hC (ct_fails hWr 2) mkX6_fails lmX6_127 kX6_dim_32 (Nat.le_of_ble_eq_true rfl) rfl rfl rfl (Nat.le_of_ble_eq_true rfl) ⟨(Nat.le_of_ble_eq_true rfl), (Nat.le_of_ble_eq_true rfl)⟩ ⟨rfl, rfl⟩ ⟨(Nat.le_of_ble_eq_true rfl), (Nat.le_of_ble_eq_true rfl)⟩ ?_
      refine V_ireti hC rfl kX6_dim_35 ?_
      exact fM_no 2 (by rw [hs1] at h10; rw [K_dim, if_pos (b01n.mp h10), if_neg (b01e.mp h27)]) (by decide) (by rw [e_sg0, ups_ups])
  · refine V_aload_n hC kX6_dim_13 rfl ?_
    refine V_iconst hC (1) kX6_dim_14 (by decide) ?_
    refine V_cV_fI hC (ct_fails hWr 1) mkX6_fails lmX6_127 kX6_dim_15 (Nat.le_of_ble_eq_true rfl) rfl rfl rfl (Nat.le_of_ble_eq_true rfl) ⟨(Nat.le_of_ble_eq_true rfl), (Nat.le_of_ble_eq_true rfl)⟩ ⟨rfl, rfl⟩ ⟨(Nat.le_of_ble_eq_true rfl), (Nat.le_of_ble_eq_true rfl)⟩ ?_
    refine V_ireti hC rfl kX6_dim_18 ?_
    exact fM_no 1 (by rw [hs1] at h10; rw [K_dim, if_neg (b01e.mp h10)]) (by decide) (by rw [e_sg0, ups_ups])
def mtX6_set : Mt := (yX6_set, cX6_set, 4, (some .int), 2, 43, 0, 0)
theorem kX6_set_0 : Dk mtX6_set 0 (.aload_n 0) 1 1 := ⟨by decide +kernel, rfl⟩
theorem kX6_set_1 : Dk mtX6_set 1 (.iconst 0) 1 2 := ⟨by decide +kernel, rfl⟩
theorem kX6_set_2 : Dk mtX6_set 2 (.putfield 32) 3 5 := ⟨by decide +kernel, rfl⟩
theorem kX6_set_5 : Dk mtX6_set 5 (.iload_n 1) 1 6 := ⟨by decide +kernel, rfl⟩
theorem kX6_set_6 : Dk mtX6_set 6 (.iload_n 2) 1 7 := ⟨by decide +kernel, rfl⟩
theorem kX6_set_7 : Dk mtX6_set 7 (.invokestatic 120) 3 10 := ⟨by decide +kernel, rfl⟩
theorem kX6_set_10 : Dk mtX6_set 10 (.ifCond .ne 9) 3 13 := ⟨by decide +kernel, rfl⟩
theorem kX6_set_13 : Dk mtX6_set 13 (.aload_n 0) 1 14 := ⟨by decide +kernel, rfl⟩
theorem kX6_set_14 : Dk mtX6_set 14 (.iconst 1) 1 15 := ⟨by decide +kernel, rfl⟩
theorem kX6_set_15 : Dk mtX6_set 15 (.invokevirtual 127) 3 18 := ⟨by decide +kernel, rfl⟩
theorem kX6_set_18 : Dk mtX6_set 18 (.ireturn) 1 19 := ⟨by decide +kernel, rfl⟩
theorem kX6_set_19 : Dk mtX6_set 19 (.aload_n 0) 1 20 := ⟨by decide +kernel, rfl⟩
theorem kX6_set_20 : Dk mtX6_set 20 (.invokevirtual 197) 3 23 := ⟨by decide +kernel, rfl⟩
theorem kX6_set_23 : Dk mtX6_set 23 (.aload_n 0) 1 24 := ⟨by decide +kernel, rfl⟩
theorem kX6_set_24 : Dk mtX6_set 24 (.getfield 7) 3 27 := ⟨by decide +kernel, rfl⟩
theorem kX6_set_27 : Dk mtX6_set 27 (.iload_n 1) 1 28 := ⟨by decide +kernel, rfl⟩
theorem kX6_set_28 : Dk mtX6_set 28 (.iaload) 1 29 := ⟨by decide +kernel, rfl⟩
theorem kX6_set_29 : Dk mtX6_set 29 (.istore_n 3) 1 30 := ⟨by decide +kernel, rfl⟩
theorem kX6_set_30 : Dk mtX6_set 30 (.aload_n 0) 1 31 := ⟨by decide +kernel, rfl⟩
theorem kX6_set_31 : Dk mtX6_set 31 (.getfield 7) 3 34 := ⟨by decide +kernel, rfl⟩
theorem kX6_set_34 : Dk mtX6_set 34 (.iload_n 1) 1 35 := ⟨by decide +kernel, rfl⟩
theorem kX6_set_35 : Dk mtX6_set 35 (.iload_n 2) 1 36 := ⟨by decide +kernel, rfl⟩
theorem kX6_set_36 : Dk mtX6_set 36 (.iastore) 1 37 := ⟨by decide +kernel, rfl⟩
theorem kX6_set_37 : Dk mtX6_set 37 (.iload_n 3) 1 38 := ⟨by decide +kernel, rfl⟩
theorem kX6_set_38 : Dk mtX6_set 38 (.ireturn) 1 39 := ⟨by decide +kernel, rfl⟩
set_option maxHeartbeats 4000000 in
set_option maxRecDepth 100000 in
theorem ct_set {l : Launch} {w : Wd} {sg : Sg} (hWr : Wr w) {mo : Nat} (a v : Int32) {c : Nat} (hc : c ≤ 14) (ec : sg mo 4 = nI c) : M l mtX6_set w [vR (some (6, 0, mo)), vI a, vI v] sg (fM mo sg (K_set a v) ((sg (mo + 1)) (tn a)) (upr (G_saves sg mo c) (mo + 1) (upd (sg (mo + 1)) (tn a) v))) := by
  refine M_of [some (vR (some (6, 0, mo))), some (vI a), some (vI v), none] rfl (Nat.le_of_ble_eq_true rfl) (by decide +kernel) ?_
  intro p_ e_ s_ m_ args_ below_ meth_ c_ hC hO
  refine V_aload_n hC kX6_set_0 rfl ?_
  refine V_iconst hC (0) kX6_set_1 (by decide) ?_
  refine V_putI hC 6 0 lfX6_32 kX6_set_2 (Nat.le_of_ble_eq_true rfl) (Nat.le_of_ble_eq_true rfl) rfl rfl ⟨rfl, rfl⟩ ?_
  refine V_nameS (fun sg0 e_sg0 => ?_)
  have hs1 : sg0 (mo + 1) = sg (mo + 1) := by rw [e_sg0]; exact upr_ne _ _ (by omega)
  have hs4 : sg0 mo 4 = sg mo 4 := by rw [e_sg0, ups_at]; exact pk_un (by decide)
  refine V_iload_n hC kX6_set_5 rfl ?_
  refine V_iload_n hC kX6_set_6 rfl ?_
  refine V_cS_fI hC (ct_isSetting hWr _ _) mkX6_isSetting lmX6_120 kX6_set_7 rfl rfl (Nat.le_of_ble_eq_true rfl) ⟨(Nat.le_of_ble_eq_true rfl), (Nat.le_of_ble_eq_true rfl)⟩ ⟨rfl, rfl⟩ ⟨(Nat.le_of_ble_eq_true rfl), (Nat.le_of_ble_eq_true rfl)⟩ ?_
  refine V_if_ne hC 19 kX6_set_10 (by decide) (fun h10 => ?_) (fun h10 => ?_)
  · refine V_aload_n hC kX6_set_19 rfl ?_
    refine V_cV_fV hC (ct_saves hWr hc (by rw [hs4]; exact ec)) mkX6_saves lmX6_197 kX6_set_20 (Nat.le_of_ble_eq_true rfl) rfl rfl rfl (Nat.le_of_ble_eq_true rfl) ⟨(Nat.le_of_ble_eq_true rfl), (Nat.le_of_ble_eq_true rfl)⟩ ⟨rfl, rfl⟩ ⟨(Nat.le_of_ble_eq_true rfl), (Nat.le_of_ble_eq_true rfl)⟩ ?_
    have hcc := b01n.mp h10
    refine V_aload_n hC kX6_set_23 rfl ?_
    refine V_getR hC hWr 6 1 lfX6_7 kX6_set_24 (Nat.le_of_ble_eq_true rfl) (Nat.le_of_ble_eq_true rfl) rfl ?_
    refine V_iload_n hC kX6_set_27 rfl ?_
    refine V_iald hC _ rfl kX6_set_28 (inn_vp (by decide) hcc.1) ?_
    refine V_nameI (fun had e_had => ?_)
    refine V_istore_n hC [some _, some _, some _, some _] kX6_set_29 rfl (Nat.le_of_ble_eq_true rfl) ?_
    refine V_aload_n hC kX6_set_30 rfl ?_
    refine V_getR hC hWr 6 1 lfX6_7 kX6_set_31 (Nat.le_of_ble_eq_true rfl) (Nat.le_of_ble_eq_true rfl) rfl ?_
    refine V_iload_n hC kX6_set_34 rfl ?_
    refine V_iload_n hC kX6_set_35 rfl ?_
    refine V_iast hC _ rfl kX6_set_36 (inn_vp (by decide) hcc.1) ?_
    refine V_iload_n hC kX6_set_37 rfl ?_
    refine V_ireti hC rfl kX6_set_38 ?_
    rw [saves_1, hs1] at e_had
    unfold ups
    rw [saves_1, hs1]
    exact fM_ok (by rw [K_set, if_pos hcc]) e_had (by rw [e_sg0, saves_thr]; exact (ups_upr (G_saves sg mo c) (k := mo + 1) (k' := mo) 0 0 _ (by omega)).symm)
  · refine V_aload_n hC kX6_set_13 rfl ?_
    refine V_iconst hC (1) kX6_set_14 (by decide) ?_
    refine V_cV_fI hC (ct_fails hWr 1) mkX6_fails lmX6_127 kX6_set_15 (Nat.le_of_ble_eq_true rfl) rfl rfl rfl (Nat.le_of_ble_eq_true rfl) ⟨(Nat.le_of_ble_eq_true rfl), (Nat.le_of_ble_eq_true rfl)⟩ ⟨rfl, rfl⟩ ⟨(Nat.le_of_ble_eq_true rfl), (Nat.le_of_ble_eq_true rfl)⟩ ?_
    refine V_ireti hC rfl kX6_set_18 ?_
    exact fM_no 1 (by rw [K_set, if_neg (b01e.mp h10)]) (by decide) (by rw [e_sg0, ups_ups])
def mtX6_ticks : Mt := (yX6_ticks, cX6_ticks, 2, (some .int), 9, 207, 0, 0)
theorem kX6_ticks_0 : Dk mtX6_ticks 0 (.aload_n 0) 1 1 := ⟨by decide +kernel, rfl⟩
theorem kX6_ticks_1 : Dk mtX6_ticks 1 (.iconst 0) 1 2 := ⟨by decide +kernel, rfl⟩
theorem kX6_ticks_2 : Dk mtX6_ticks 2 (.putfield 32) 3 5 := ⟨by decide +kernel, rfl⟩
theorem kX6_ticks_5 : Dk mtX6_ticks 5 (.iload_n 1) 1 6 := ⟨by decide +kernel, rfl⟩
theorem kX6_ticks_6 : Dk mtX6_ticks 6 (.iconst 1) 1 7 := ⟨by decide +kernel, rfl⟩
theorem kX6_ticks_7 : Dk mtX6_ticks 7 (.bipush 60) 2 9 := ⟨by decide +kernel, rfl⟩
theorem kX6_ticks_9 : Dk mtX6_ticks 9 (.invokestatic 39) 3 12 := ⟨by decide +kernel, rfl⟩
theorem kX6_ticks_12 : Dk mtX6_ticks 12 (.ifCond .ne 9) 3 15 := ⟨by decide +kernel, rfl⟩
theorem kX6_ticks_15 : Dk mtX6_ticks 15 (.aload_n 0) 1 16 := ⟨by decide +kernel, rfl⟩
theorem kX6_ticks_16 : Dk mtX6_ticks 16 (.iconst 1) 1 17 := ⟨by decide +kernel, rfl⟩
theorem kX6_ticks_17 : Dk mtX6_ticks 17 (.invokevirtual 127) 3 20 := ⟨by decide +kernel, rfl⟩
theorem kX6_ticks_20 : Dk mtX6_ticks 20 (.ireturn) 1 21 := ⟨by decide +kernel, rfl⟩
theorem kX6_ticks_21 : Dk mtX6_ticks 21 (.aload_n 0) 1 22 := ⟨by decide +kernel, rfl⟩
theorem kX6_ticks_22 : Dk mtX6_ticks 22 (.invokevirtual 197) 3 25 := ⟨by decide +kernel, rfl⟩
theorem kX6_ticks_25 : Dk mtX6_ticks 25 (.aload_n 0) 1 26 := ⟨by decide +kernel, rfl⟩
theorem kX6_ticks_26 : Dk mtX6_ticks 26 (.iload_n 1) 1 27 := ⟨by decide +kernel, rfl⟩
theorem kX6_ticks_27 : Dk mtX6_ticks 27 (.invokevirtual 166) 3 30 := ⟨by decide +kernel, rfl⟩
theorem kX6_ticks_30 : Dk mtX6_ticks 30 (.ireturn) 1 31 := ⟨by decide +kernel, rfl⟩
theorem lmX6_166 : LkM RX6 166 mtX6_actsTicks := Or.inl (by decide +kernel)
theorem mkX6_actsTicks : MkV mtX6_actsTicks 1 := ⟨List.mem_of_getElem? (i := 1173) (by decide +kernel), by decide +kernel, by decide +kernel, by decide +kernel, ⟨by decide +kernel, by decide +kernel, by decide +kernel⟩⟩
set_option maxHeartbeats 4000000 in
set_option maxRecDepth 100000 in
theorem ct_ticks {l : Launch} {w : Wd} {sg : Sg} (hWr : Wr w) {mo : Nat} (a : Int32) {c : Nat} (hc : c ≤ 14) (ec : sg mo 4 = nI c) (hI : Inv (sg (mo + 1))) : M l mtX6_ticks w [vR (some (6, 0, mo)), vI a] sg (fM mo sg (K_ticks a) (F_ticks (sg (mo + 1)) (tn a) 7 - (sg (mo + 1)) 7) (upr (G_saves sg mo c) (mo + 1) (F_ticks (sg (mo + 1)) (tn a)))) := by
  refine M_of [some (vR (some (6, 0, mo))), some (vI a)] rfl (Nat.le_of_ble_eq_true rfl) (by decide +kernel) ?_
  intro p_ e_ s_ m_ args_ below_ meth_ c_ hC hO
  refine V_aload_n hC kX6_ticks_0 rfl ?_
  refine V_iconst hC (0) kX6_ticks_1 (by decide) ?_
  refine V_putI hC 6 0 lfX6_32 kX6_ticks_2 (Nat.le_of_ble_eq_true rfl) (Nat.le_of_ble_eq_true rfl) rfl rfl ⟨rfl, rfl⟩ ?_
  refine V_nameS (fun sg0 e_sg0 => ?_)
  have hs1 : sg0 (mo + 1) = sg (mo + 1) := by rw [e_sg0]; exact upr_ne _ _ (by omega)
  have hs4 : sg0 mo 4 = sg mo 4 := by rw [e_sg0, ups_at]; exact pk_un (by decide)
  refine V_iload_n hC kX6_ticks_5 rfl ?_
  refine V_iconst hC (1) kX6_ticks_6 (by decide) ?_
  refine V_bipush hC (60) kX6_ticks_7 (by decide) ?_
  refine V_cS_fI hC (ct_in hWr _ _ _) mkX6_in lmX6_39 kX6_ticks_9 rfl rfl (Nat.le_of_ble_eq_true rfl) ⟨(Nat.le_of_ble_eq_true rfl), (Nat.le_of_ble_eq_true rfl)⟩ ⟨rfl, rfl⟩ ⟨(Nat.le_of_ble_eq_true rfl), (Nat.le_of_ble_eq_true rfl)⟩ ?_
  refine V_if_ne hC 21 kX6_ticks_12 (by decide) (fun h12 => ?_) (fun h12 => ?_)
  · refine V_aload_n hC kX6_ticks_21 rfl ?_
    refine V_cV_fV hC (ct_saves hWr hc (by rw [hs4]; exact ec)) mkX6_saves lmX6_197 kX6_ticks_22 (Nat.le_of_ble_eq_true rfl) rfl rfl rfl (Nat.le_of_ble_eq_true rfl) ⟨(Nat.le_of_ble_eq_true rfl), (Nat.le_of_ble_eq_true rfl)⟩ ⟨rfl, rfl⟩ ⟨(Nat.le_of_ble_eq_true rfl), (Nat.le_of_ble_eq_true rfl)⟩ ?_
    have hcc := b01n.mp h12
    refine V_aload_n hC kX6_ticks_25 rfl ?_
    refine V_iload_n hC kX6_ticks_26 rfl ?_
    refine V_cV_fI hC (ct_actsTicks hWr a (by rw [saves_1, hs1]; exact hI)) mkX6_actsTicks lmX6_166 kX6_ticks_27 (Nat.le_of_ble_eq_true rfl) rfl rfl rfl (Nat.le_of_ble_eq_true rfl) ⟨(Nat.le_of_ble_eq_true rfl), (Nat.le_of_ble_eq_true rfl)⟩ ⟨rfl, rfl⟩ ⟨(Nat.le_of_ble_eq_true rfl), (Nat.le_of_ble_eq_true rfl)⟩ ?_
    refine V_ireti hC rfl kX6_ticks_30 ?_
    rw [if_pos hcc, if_pos hcc, saves_1, hs1]
    exact fM_ok (by rw [K_ticks, if_pos hcc]) rfl (by rw [e_sg0, saves_thr, ups_upr _ _ _ _ (by omega)])
  · refine V_aload_n hC kX6_ticks_15 rfl ?_
    refine V_iconst hC (1) kX6_ticks_16 (by decide) ?_
    refine V_cV_fI hC (ct_fails hWr 1) mkX6_fails lmX6_127 kX6_ticks_17 (Nat.le_of_ble_eq_true rfl) rfl rfl rfl (Nat.le_of_ble_eq_true rfl) ⟨(Nat.le_of_ble_eq_true rfl), (Nat.le_of_ble_eq_true rfl)⟩ ⟨rfl, rfl⟩ ⟨(Nat.le_of_ble_eq_true rfl), (Nat.le_of_ble_eq_true rfl)⟩ ?_
    refine V_ireti hC rfl kX6_ticks_20 ?_
    exact fM_no 1 (by rw [K_ticks, if_neg (b01e.mp h12)]) (by decide) (by rw [e_sg0, ups_ups])
def mtX6_undo : Mt := (yX6_undo, cX6_undo, 2, (some .int), 1, 21, 0, 0)
theorem kX6_undo_0 : Dk mtX6_undo 0 (.aload_n 0) 1 1 := ⟨by decide +kernel, rfl⟩
theorem kX6_undo_1 : Dk mtX6_undo 1 (.iconst 0) 1 2 := ⟨by decide +kernel, rfl⟩
theorem kX6_undo_2 : Dk mtX6_undo 2 (.putfield 32) 3 5 := ⟨by decide +kernel, rfl⟩
theorem kX6_undo_5 : Dk mtX6_undo 5 (.aload_n 0) 1 6 := ⟨by decide +kernel, rfl⟩
theorem kX6_undo_6 : Dk mtX6_undo 6 (.getfield 43) 3 9 := ⟨by decide +kernel, rfl⟩
theorem kX6_undo_9 : Dk mtX6_undo 9 (.ifCond .ne 9) 3 12 := ⟨by decide +kernel, rfl⟩
theorem kX6_undo_12 : Dk mtX6_undo 12 (.aload_n 0) 1 13 := ⟨by decide +kernel, rfl⟩
theorem kX6_undo_13 : Dk mtX6_undo 13 (.iconst 1) 1 14 := ⟨by decide +kernel, rfl⟩
theorem kX6_undo_14 : Dk mtX6_undo 14 (.invokevirtual 127) 3 17 := ⟨by decide +kernel, rfl⟩
theorem kX6_undo_17 : Dk mtX6_undo 17 (.ireturn) 1 18 := ⟨by decide +kernel, rfl⟩
theorem kX6_undo_18 : Dk mtX6_undo 18 (.aload_n 0) 1 19 := ⟨by decide +kernel, rfl⟩
theorem kX6_undo_19 : Dk mtX6_undo 19 (.dup) 1 20 := ⟨by decide +kernel, rfl⟩
theorem kX6_undo_20 : Dk mtX6_undo 20 (.getfield 43) 3 23 := ⟨by decide +kernel, rfl⟩
theorem kX6_undo_23 : Dk mtX6_undo 23 (.iconst 1) 1 24 := ⟨by decide +kernel, rfl⟩
theorem kX6_undo_24 : Dk mtX6_undo 24 (.isub) 1 25 := ⟨by decide +kernel, rfl⟩
theorem kX6_undo_25 : Dk mtX6_undo 25 (.putfield 43) 3 28 := ⟨by decide +kernel, rfl⟩
theorem kX6_undo_28 : Dk mtX6_undo 28 (.iconst 0) 1 29 := ⟨by decide +kernel, rfl⟩
theorem kX6_undo_29 : Dk mtX6_undo 29 (.istore_n 1) 1 30 := ⟨by decide +kernel, rfl⟩
theorem kX6_undo_30 : Dk mtX6_undo 30 (.iload_n 1) 1 31 := ⟨by decide +kernel, rfl⟩
theorem kX6_undo_31 : Dk mtX6_undo 31 (.sipush 140) 3 34 := ⟨by decide +kernel, rfl⟩
theorem kX6_undo_34 : Dk mtX6_undo 34 (.if_icmp .ge 30) 3 37 := ⟨by decide +kernel, rfl⟩
theorem kX6_undo_37 : Dk mtX6_undo 37 (.aload_n 0) 1 38 := ⟨by decide +kernel, rfl⟩
theorem kX6_undo_38 : Dk mtX6_undo 38 (.getfield 7) 3 41 := ⟨by decide +kernel, rfl⟩
theorem kX6_undo_41 : Dk mtX6_undo 41 (.iload_n 1) 1 42 := ⟨by decide +kernel, rfl⟩
theorem kX6_undo_42 : Dk mtX6_undo 42 (.aload_n 0) 1 43 := ⟨by decide +kernel, rfl⟩
theorem kX6_undo_43 : Dk mtX6_undo 43 (.getfield 16) 3 46 := ⟨by decide +kernel, rfl⟩
theorem kX6_undo_46 : Dk mtX6_undo 46 (.sipush 140) 3 49 := ⟨by decide +kernel, rfl⟩
theorem kX6_undo_49 : Dk mtX6_undo 49 (.aload_n 0) 1 50 := ⟨by decide +kernel, rfl⟩
theorem kX6_undo_50 : Dk mtX6_undo 50 (.getfield 43) 3 53 := ⟨by decide +kernel, rfl⟩
theorem kX6_undo_53 : Dk mtX6_undo 53 (.imul) 1 54 := ⟨by decide +kernel, rfl⟩
theorem kX6_undo_54 : Dk mtX6_undo 54 (.iload_n 1) 1 55 := ⟨by decide +kernel, rfl⟩
theorem kX6_undo_55 : Dk mtX6_undo 55 (.iadd) 1 56 := ⟨by decide +kernel, rfl⟩
theorem kX6_undo_56 : Dk mtX6_undo 56 (.iaload) 1 57 := ⟨by decide +kernel, rfl⟩
theorem kX6_undo_57 : Dk mtX6_undo 57 (.iastore) 1 58 := ⟨by decide +kernel, rfl⟩
theorem kX6_undo_58 : Dk mtX6_undo 58 (.iinc 1 1) 3 61 := ⟨by decide +kernel, rfl⟩
theorem kX6_undo_61 : Dk mtX6_undo 61 (.goto (-31)) 3 64 := ⟨by decide +kernel, rfl⟩
theorem kX6_undo_64 : Dk mtX6_undo 64 (.aload_n 0) 1 65 := ⟨by decide +kernel, rfl⟩
theorem kX6_undo_65 : Dk mtX6_undo 65 (.getfield 43) 3 68 := ⟨by decide +kernel, rfl⟩
theorem kX6_undo_68 : Dk mtX6_undo 68 (.ireturn) 1 69 := ⟨by decide +kernel, rfl⟩
set_option maxHeartbeats 4000000 in
set_option maxRecDepth 100000 in
theorem ct_undo {l : Launch} {w : Wd} {sg : Sg} (hWr : Wr w) {mo : Nat} {c : Nat} (hc : c ≤ 14) (ec : sg mo 4 = nI c) : M l mtX6_undo w [vR (some (6, 0, mo))] sg (fM mo sg (K_undo c) (nI (c - 1)) (G_undo sg mo c)) := by
  refine M_of [some (vR (some (6, 0, mo))), none] rfl (Nat.le_of_ble_eq_true rfl) (by decide +kernel) ?_
  intro p_ e_ s_ m_ args_ below_ meth_ c_ hC hO
  refine V_aload_n hC kX6_undo_0 rfl ?_
  refine V_iconst hC (0) kX6_undo_1 (by decide) ?_
  refine V_putI hC 6 0 lfX6_32 kX6_undo_2 (Nat.le_of_ble_eq_true rfl) (Nat.le_of_ble_eq_true rfl) rfl rfl ⟨rfl, rfl⟩ ?_
  refine V_nameS (fun sg0 e_sg0 => ?_)
  have hs1 : sg0 (mo + 1) = sg (mo + 1) := by rw [e_sg0]; exact upr_ne _ _ (by omega)
  have hs4 : sg0 mo 4 = sg mo 4 := by rw [e_sg0, ups_at]; exact pk_un (by decide)
  refine V_aload_n hC kX6_undo_5 rfl ?_
  refine V_getI hC 6 4 lfX6_43 kX6_undo_6 (Nat.le_of_ble_eq_true rfl) (Nat.le_of_ble_eq_true rfl) rfl ?_
  refine V_if_ne hC 18 kX6_undo_9 (by decide) (fun h9 => ?_) (fun h9 => ?_)
  · have hc0 : c ≠ 0 := fun z => h9 (by rw [hs4, ec, z]; rfl)
    obtain ⟨d, hd⟩ : ∃ d, c = d + 1 := ⟨c - 1, by omega⟩
    have hs3 : sg0 (mo + 3) = sg (mo + 3) := by rw [e_sg0]; exact ups_ne _ _ _ (by omega)
    refine V_aload_n hC kX6_undo_18 rfl ?_
    refine V_dup hC kX6_undo_19 rfl ?_
    refine V_getI hC 6 4 lfX6_43 kX6_undo_20 (Nat.le_of_ble_eq_true rfl) (Nat.le_of_ble_eq_true rfl) rfl ?_
    refine V_iconst hC (1) kX6_undo_23 (by decide) ?_
    refine V_isub hC kX6_undo_24 ?_
    refine V_putI hC 6 4 lfX6_43 kX6_undo_25 (Nat.le_of_ble_eq_true rfl) (Nat.le_of_ble_eq_true rfl) rfl rfl ⟨rfl, rfl⟩ ?_
    refine V_canon (ups sg0 mo 4 (nI d)) (by rw [hs4, ec, hd, nI_pred]) ?_
    refine V_iconst hC (0) kX6_undo_28 (by decide) ?_
    refine V_istore_n hC [some _, some _] kX6_undo_29 rfl (Nat.le_of_ble_eq_true rfl) ?_
    refine V_canon (upr (ups sg0 mo 4 (nI d)) (mo + 1) (cpy (fun z => sg (mo + 3) (140 * d + z)) (sg (mo + 1)) 0)) (by rw [cpy_0, ← hs1, show sg0 (mo + 1) = ups sg0 mo 4 (nI d) (mo + 1) from (ups_ne _ _ _ (by omega)).symm, upr_self]) ?_
    refine V_loop 140 (fun i => [some (vR (some (6, 0, mo))), some (vI (nI i))]) (fun i => upr (ups sg0 mo 4 (nI d)) (mo + 1) (cpy (fun z => sg (mo + 3) (140 * d + z)) (sg (mo + 1)) i)) rfl rfl ?_ (fun i hi ihi => ?_)
    · refine V_iload_n hC kX6_undo_30 rfl ?_
      refine V_sipush hC (140) kX6_undo_31 (by decide) ?_
      refine V_icmp_ge hC 64 kX6_undo_34 (by decide) (fun h34 => ?_) (fun h34 => absurd h34 (not_not_intro (nI_lit rfl)))
      refine V_aload_n hC kX6_undo_64 rfl ?_
      refine V_getI hC 6 4 lfX6_43 kX6_undo_65 (Nat.le_of_ble_eq_true rfl) (Nat.le_of_ble_eq_true rfl) rfl ?_
      refine V_ireti hC rfl kX6_undo_68 ?_
      exact fM_ok (by rw [K_undo, if_neg hc0]) (by rw [upr_ne _ _ (by omega), ups_at, hd, Nat.add_sub_cancel]; exact pk_us) (by rw [e_sg0, hd]; unfold G_undo; rw [Nat.add_sub_cancel, ups_comm _ _ _ _ (by decide : (0 : Nat) ≠ 4), ← ups_upr _ _ _ _ (by omega), ← ups_upr _ _ _ _ (by omega)])
    · have he4 : upr (ups sg0 mo 4 (nI d)) (mo + 1) (cpy (fun z => sg (mo + 3) (140 * d + z)) (sg (mo + 1)) i) mo 4 = nI d := by rw [upr_ne _ _ (by omega), ups_at]; exact pk_us
      refine V_iload_n hC kX6_undo_30 rfl ?_
      refine V_sipush hC (140) kX6_undo_31 (by decide) ?_
      refine V_icmp_ge hC 64 kX6_undo_34 (by decide) (fun h34 => absurd h34 (by exact nI_ge (b := 140) hi (by decide))) (fun h34 => ?_)
      refine V_aload_n hC kX6_undo_37 rfl ?_
      refine V_getR hC hWr 6 1 lfX6_7 kX6_undo_38 (Nat.le_of_ble_eq_true rfl) (Nat.le_of_ble_eq_true rfl) rfl ?_
      refine V_iload_n hC kX6_undo_41 rfl ?_
      refine V_aload_n hC kX6_undo_42 rfl ?_
      refine V_getR hC hWr 6 3 lfX6_16 kX6_undo_43 (Nat.le_of_ble_eq_true rfl) (Nat.le_of_ble_eq_true rfl) rfl ?_
      refine V_sipush hC (140) kX6_undo_46 (by decide) ?_
      refine V_aload_n hC kX6_undo_49 rfl ?_
      refine V_getI hC 6 4 lfX6_43 kX6_undo_50 (Nat.le_of_ble_eq_true rfl) (Nat.le_of_ble_eq_true rfl) rfl ?_
      refine V_imul hC kX6_undo_53 ?_
      refine V_iload_n hC kX6_undo_54 rfl ?_
      refine V_iadd hC kX6_undo_55 ?_
      refine V_iald hC (140 * d + i) (ix_eq (a := 140) (by omega) rfl he4) kX6_undo_56 (ix_in (a := 140) (by omega) (by decide) rfl he4) ?_
      refine V_iast hC i (nI_clamp (by omega)) kX6_undo_57 (vp_in_nI hi (by decide)) ?_
      refine V_iinc hC (_ + 1) [some _, some _] kX6_undo_58 rfl rfl rfl (Nat.le_of_ble_eq_true rfl) ?_
      refine V_goto hC 30 kX6_undo_61 (by decide) ?_
      refine V_eq (by rw [nI_succ]) ?_ ihi
      unfold ups
      rw [upr_at, upr_upr, upr_ne _ _ (show mo + 3 ≠ mo + 1 by omega), upr_ne _ _ (show mo + 3 ≠ mo by omega), hs3]
      exact congrArg _ (cpy_s (fun z => sg (mo + 3) (140 * d + z)) _ i)
  · refine V_aload_n hC kX6_undo_12 rfl ?_
    refine V_iconst hC (1) kX6_undo_13 (by decide) ?_
    refine V_cV_fI hC (ct_fails hWr 1) mkX6_fails lmX6_127 kX6_undo_14 (Nat.le_of_ble_eq_true rfl) rfl rfl rfl (Nat.le_of_ble_eq_true rfl) ⟨(Nat.le_of_ble_eq_true rfl), (Nat.le_of_ble_eq_true rfl)⟩ ⟨rfl, rfl⟩ ⟨(Nat.le_of_ble_eq_true rfl), (Nat.le_of_ble_eq_true rfl)⟩ ?_
    refine V_ireti hC rfl kX6_undo_17 ?_
    exact fM_no 1 (by rw [hs4, ec] at h9; rw [K_undo, if_pos ((nI_eq (by omega) (by decide)).mp h9)]) (by decide) (by rw [e_sg0, ups_ups])
def mtX6_save : Mt := (yX6_save, cX6_save, 3, (some .int), 1, 22, 0, 0)
theorem kX6_save_0 : Dk mtX6_save 0 (.aload_n 0) 1 1 := ⟨by decide +kernel, rfl⟩
theorem kX6_save_1 : Dk mtX6_save 1 (.iconst 0) 1 2 := ⟨by decide +kernel, rfl⟩
theorem kX6_save_2 : Dk mtX6_save 2 (.putfield 32) 3 5 := ⟨by decide +kernel, rfl⟩
theorem kX6_save_5 : Dk mtX6_save 5 (.iload_n 1) 1 6 := ⟨by decide +kernel, rfl⟩
theorem kX6_save_6 : Dk mtX6_save 6 (.iconst 0) 1 7 := ⟨by decide +kernel, rfl⟩
theorem kX6_save_7 : Dk mtX6_save 7 (.iconst 1) 1 8 := ⟨by decide +kernel, rfl⟩
theorem kX6_save_8 : Dk mtX6_save 8 (.invokestatic 39) 3 11 := ⟨by decide +kernel, rfl⟩
theorem kX6_save_11 : Dk mtX6_save 11 (.ifCond .ne 9) 3 14 := ⟨by decide +kernel, rfl⟩
theorem kX6_save_14 : Dk mtX6_save 14 (.aload_n 0) 1 15 := ⟨by decide +kernel, rfl⟩
theorem kX6_save_15 : Dk mtX6_save 15 (.iconst 1) 1 16 := ⟨by decide +kernel, rfl⟩
theorem kX6_save_16 : Dk mtX6_save 16 (.invokevirtual 127) 3 19 := ⟨by decide +kernel, rfl⟩
theorem kX6_save_19 : Dk mtX6_save 19 (.ireturn) 1 20 := ⟨by decide +kernel, rfl⟩
theorem kX6_save_20 : Dk mtX6_save 20 (.iconst 0) 1 21 := ⟨by decide +kernel, rfl⟩
theorem kX6_save_21 : Dk mtX6_save 21 (.istore_n 2) 1 22 := ⟨by decide +kernel, rfl⟩
theorem kX6_save_22 : Dk mtX6_save 22 (.iload_n 2) 1 23 := ⟨by decide +kernel, rfl⟩
theorem kX6_save_23 : Dk mtX6_save 23 (.sipush 140) 3 26 := ⟨by decide +kernel, rfl⟩
theorem kX6_save_26 : Dk mtX6_save 26 (.if_icmp .ge 27) 3 29 := ⟨by decide +kernel, rfl⟩
theorem kX6_save_29 : Dk mtX6_save 29 (.aload_n 0) 1 30 := ⟨by decide +kernel, rfl⟩
theorem kX6_save_30 : Dk mtX6_save 30 (.getfield 19) 3 33 := ⟨by decide +kernel, rfl⟩
theorem kX6_save_33 : Dk mtX6_save 33 (.sipush 140) 3 36 := ⟨by decide +kernel, rfl⟩
theorem kX6_save_36 : Dk mtX6_save 36 (.iload_n 1) 1 37 := ⟨by decide +kernel, rfl⟩
theorem kX6_save_37 : Dk mtX6_save 37 (.imul) 1 38 := ⟨by decide +kernel, rfl⟩
theorem kX6_save_38 : Dk mtX6_save 38 (.iload_n 2) 1 39 := ⟨by decide +kernel, rfl⟩
theorem kX6_save_39 : Dk mtX6_save 39 (.iadd) 1 40 := ⟨by decide +kernel, rfl⟩
theorem kX6_save_40 : Dk mtX6_save 40 (.aload_n 0) 1 41 := ⟨by decide +kernel, rfl⟩
theorem kX6_save_41 : Dk mtX6_save 41 (.getfield 7) 3 44 := ⟨by decide +kernel, rfl⟩
theorem kX6_save_44 : Dk mtX6_save 44 (.iload_n 2) 1 45 := ⟨by decide +kernel, rfl⟩
theorem kX6_save_45 : Dk mtX6_save 45 (.iaload) 1 46 := ⟨by decide +kernel, rfl⟩
theorem kX6_save_46 : Dk mtX6_save 46 (.iastore) 1 47 := ⟨by decide +kernel, rfl⟩
theorem kX6_save_47 : Dk mtX6_save 47 (.iinc 2 1) 3 50 := ⟨by decide +kernel, rfl⟩
theorem kX6_save_50 : Dk mtX6_save 50 (.goto (-28)) 3 53 := ⟨by decide +kernel, rfl⟩
theorem kX6_save_53 : Dk mtX6_save 53 (.aload_n 0) 1 54 := ⟨by decide +kernel, rfl⟩
theorem kX6_save_54 : Dk mtX6_save 54 (.getfield 22) 3 57 := ⟨by decide +kernel, rfl⟩
theorem kX6_save_57 : Dk mtX6_save 57 (.iload_n 1) 1 58 := ⟨by decide +kernel, rfl⟩
theorem kX6_save_58 : Dk mtX6_save 58 (.iconst 1) 1 59 := ⟨by decide +kernel, rfl⟩
theorem kX6_save_59 : Dk mtX6_save 59 (.bastore) 1 60 := ⟨by decide +kernel, rfl⟩
theorem kX6_save_60 : Dk mtX6_save 60 (.aload_n 0) 1 61 := ⟨by decide +kernel, rfl⟩
theorem kX6_save_61 : Dk mtX6_save 61 (.getfield 7) 3 64 := ⟨by decide +kernel, rfl⟩
theorem kX6_save_64 : Dk mtX6_save 64 (.bipush 6) 2 66 := ⟨by decide +kernel, rfl⟩
theorem kX6_save_66 : Dk mtX6_save 66 (.iaload) 1 67 := ⟨by decide +kernel, rfl⟩
theorem kX6_save_67 : Dk mtX6_save 67 (.ireturn) 1 68 := ⟨by decide +kernel, rfl⟩
theorem lfX6_22 : LkF RX6 22 6 6 := Or.inl (by decide +kernel)
theorem lfX6_19 : LkF RX6 19 6 5 := Or.inl (by decide +kernel)
set_option maxHeartbeats 4000000 in
set_option maxRecDepth 100000 in
theorem ct_save {l : Launch} {w : Wd} {sg : Sg} (hWr : Wr w) {mo : Nat} (a : Int32) : M l mtX6_save w [vR (some (6, 0, mo)), vI a] sg (fM mo sg (K_slot a) ((sg (mo + 1)) 6) (G_save sg mo (tn a))) := by
  refine M_of [some (vR (some (6, 0, mo))), some (vI a), none] rfl (Nat.le_of_ble_eq_true rfl) (by decide +kernel) ?_
  intro p_ e_ s_ m_ args_ below_ meth_ c_ hC hO
  refine V_aload_n hC kX6_save_0 rfl ?_
  refine V_iconst hC (0) kX6_save_1 (by decide) ?_
  refine V_putI hC 6 0 lfX6_32 kX6_save_2 (Nat.le_of_ble_eq_true rfl) (Nat.le_of_ble_eq_true rfl) rfl rfl ⟨rfl, rfl⟩ ?_
  refine V_nameS (fun sg0 e_sg0 => ?_)
  have hs1 : sg0 (mo + 1) = sg (mo + 1) := by rw [e_sg0]; exact upr_ne _ _ (by omega)
  have hs4 : sg0 mo 4 = sg mo 4 := by rw [e_sg0, ups_at]; exact pk_un (by decide)
  refine V_iload_n hC kX6_save_5 rfl ?_
  refine V_iconst hC (0) kX6_save_6 (by decide) ?_
  refine V_iconst hC (1) kX6_save_7 (by decide) ?_
  refine V_cS_fI hC (ct_in hWr _ _ _) mkX6_in lmX6_39 kX6_save_8 rfl rfl (Nat.le_of_ble_eq_true rfl) ⟨(Nat.le_of_ble_eq_true rfl), (Nat.le_of_ble_eq_true rfl)⟩ ⟨rfl, rfl⟩ ⟨(Nat.le_of_ble_eq_true rfl), (Nat.le_of_ble_eq_true rfl)⟩ ?_
  refine V_if_ne hC 20 kX6_save_11 (by decide) (fun h11 => ?_) (fun h11 => ?_)
  · have hcc := b01n.mp h11
    obtain ⟨N, hN, ea⟩ : ∃ N, N < 2 ∧ a = nI N := vp_in_of (inn_vp (by decide) hcc) (by decide)
    subst ea
    have et : tn (nI N) = N := nI_clamp (by omega)
    have hs2 : sg0 (mo + 4) = sg (mo + 4) := by rw [e_sg0]; exact ups_ne _ _ _ (by omega)
    have hs5 : sg0 (mo + 5) = sg (mo + 5) := by rw [e_sg0]; exact ups_ne _ _ _ (by omega)
    refine V_iconst hC (0) kX6_save_20 (by decide) ?_
    refine V_istore_n hC [some _, some _, some _] kX6_save_21 rfl (Nat.le_of_ble_eq_true rfl) ?_
    refine V_canon (upr sg0 (mo + 4) (fb_put (sg (mo + 4)) (sg (mo + 1)) (140 * N) 0)) (by rw [fb_put_0, ← hs2, upr_self]) ?_
    refine V_loop 140 (fun i => [some (vR (some (6, 0, mo))), some (vI (nI N)), some (vI (nI i))]) (fun i => upr sg0 (mo + 4) (fb_put (sg (mo + 4)) (sg (mo + 1)) (140 * N) i)) rfl rfl ?_ (fun i hi ihi => ?_)
    · refine V_iload_n hC kX6_save_22 rfl ?_
      refine V_sipush hC (140) kX6_save_23 (by decide) ?_
      refine V_icmp_ge hC 53 kX6_save_26 (by decide) (fun h26 => ?_) (fun h26 => absurd h26 (not_not_intro (nI_lit rfl)))
      refine V_aload_n hC kX6_save_53 rfl ?_
      refine V_getR hC hWr 6 6 lfX6_22 kX6_save_54 (Nat.le_of_ble_eq_true rfl) (Nat.le_of_ble_eq_true rfl) rfl ?_
      refine V_iload_n hC kX6_save_57 rfl ?_
      refine V_iconst hC (1) kX6_save_58 (by decide) ?_
      refine V_zast hC N et kX6_save_59 (vp_in_nI hN (by decide)) rfl ?_
      refine V_aload_n hC kX6_save_60 rfl ?_
      refine V_getR hC hWr 6 1 lfX6_7 kX6_save_61 (Nat.le_of_ble_eq_true rfl) (Nat.le_of_ble_eq_true rfl) rfl ?_
      refine V_bipush hC (6) kX6_save_64 (by decide) ?_
      refine V_iald hC 6 rfl kX6_save_66 (vp_lit rfl) ?_
      refine V_ireti hC rfl kX6_save_67 ?_
      exact fM_ok (by rw [K_slot, if_pos hcc]) (by rw [ups_ne _ _ _ (by omega), upr_ne _ _ (by omega), hs1]) (by unfold G_save; rw [et]; show upr (upr sg0 (mo + 4) _) (mo + 5) (upd (upr sg0 (mo + 4) _ (mo + 5)) N 1) = _; rw [upr_ne _ _ (by omega), hs5, ups_upr _ _ _ _ (by omega), ups_upr _ _ _ _ (by omega), ← e_sg0])
    · refine V_iload_n hC kX6_save_22 rfl ?_
      refine V_sipush hC (140) kX6_save_23 (by decide) ?_
      refine V_icmp_ge hC 53 kX6_save_26 (by decide) (fun h26 => absurd h26 (by exact nI_ge (b := 140) hi (by decide))) (fun h26 => ?_)
      refine V_aload_n hC kX6_save_29 rfl ?_
      refine V_getR hC hWr 6 5 lfX6_19 kX6_save_30 (Nat.le_of_ble_eq_true rfl) (Nat.le_of_ble_eq_true rfl) rfl ?_
      refine V_sipush hC (140) kX6_save_33 (by decide) ?_
      refine V_iload_n hC kX6_save_36 rfl ?_
      refine V_imul hC kX6_save_37 ?_
      refine V_iload_n hC kX6_save_38 rfl ?_
      refine V_iadd hC kX6_save_39 ?_
      refine V_aload_n hC kX6_save_40 rfl ?_
      refine V_getR hC hWr 6 1 lfX6_7 kX6_save_41 (Nat.le_of_ble_eq_true rfl) (Nat.le_of_ble_eq_true rfl) rfl ?_
      refine V_iload_n hC kX6_save_44 rfl ?_
      refine V_iald hC i (nI_clamp (by omega)) kX6_save_45 (vp_in_nI hi (by decide)) ?_
      refine V_iast hC (140 * N + i) (ix_eq (a := 140) (by omega) rfl rfl) kX6_save_46 (ix_in (a := 140) (by omega) (by decide) rfl rfl) ?_
      refine V_iinc hC (_ + 1) [some _, some _, some _] kX6_save_47 rfl rfl rfl (Nat.le_of_ble_eq_true rfl) ?_
      refine V_goto hC 22 kX6_save_50 (by decide) ?_
      refine V_eq (by rw [nI_succ]) ?_ ihi
      unfold ups
      rw [upr_at, upr_upr, upr_ne _ _ (by omega), hs1, fb_put_succ]
  · refine V_aload_n hC kX6_save_14 rfl ?_
    refine V_iconst hC (1) kX6_save_15 (by decide) ?_
    refine V_cV_fI hC (ct_fails hWr 1) mkX6_fails lmX6_127 kX6_save_16 (Nat.le_of_ble_eq_true rfl) rfl rfl rfl (Nat.le_of_ble_eq_true rfl) ⟨(Nat.le_of_ble_eq_true rfl), (Nat.le_of_ble_eq_true rfl)⟩ ⟨rfl, rfl⟩ ⟨(Nat.le_of_ble_eq_true rfl), (Nat.le_of_ble_eq_true rfl)⟩ ?_
    refine V_ireti hC rfl kX6_save_19 ?_
    exact fM_no 1 (by rw [K_slot, if_neg (b01e.mp h11)]) (by decide) (by rw [e_sg0, ups_ups])
def mtX6_restore : Mt := (yX6_restore, cX6_restore, 3, (some .int), 1, 22, 0, 0)
theorem kX6_restore_0 : Dk mtX6_restore 0 (.aload_n 0) 1 1 := ⟨by decide +kernel, rfl⟩
theorem kX6_restore_1 : Dk mtX6_restore 1 (.iconst 0) 1 2 := ⟨by decide +kernel, rfl⟩
theorem kX6_restore_2 : Dk mtX6_restore 2 (.putfield 32) 3 5 := ⟨by decide +kernel, rfl⟩
theorem kX6_restore_5 : Dk mtX6_restore 5 (.iload_n 1) 1 6 := ⟨by decide +kernel, rfl⟩
theorem kX6_restore_6 : Dk mtX6_restore 6 (.iconst 0) 1 7 := ⟨by decide +kernel, rfl⟩
theorem kX6_restore_7 : Dk mtX6_restore 7 (.iconst 1) 1 8 := ⟨by decide +kernel, rfl⟩
theorem kX6_restore_8 : Dk mtX6_restore 8 (.invokestatic 39) 3 11 := ⟨by decide +kernel, rfl⟩
theorem kX6_restore_11 : Dk mtX6_restore 11 (.ifCond .ne 9) 3 14 := ⟨by decide +kernel, rfl⟩
theorem kX6_restore_14 : Dk mtX6_restore 14 (.aload_n 0) 1 15 := ⟨by decide +kernel, rfl⟩
theorem kX6_restore_15 : Dk mtX6_restore 15 (.iconst 1) 1 16 := ⟨by decide +kernel, rfl⟩
theorem kX6_restore_16 : Dk mtX6_restore 16 (.invokevirtual 127) 3 19 := ⟨by decide +kernel, rfl⟩
theorem kX6_restore_19 : Dk mtX6_restore 19 (.ireturn) 1 20 := ⟨by decide +kernel, rfl⟩
theorem kX6_restore_20 : Dk mtX6_restore 20 (.aload_n 0) 1 21 := ⟨by decide +kernel, rfl⟩
theorem kX6_restore_21 : Dk mtX6_restore 21 (.getfield 22) 3 24 := ⟨by decide +kernel, rfl⟩
theorem kX6_restore_24 : Dk mtX6_restore 24 (.iload_n 1) 1 25 := ⟨by decide +kernel, rfl⟩
theorem kX6_restore_25 : Dk mtX6_restore 25 (.baload) 1 26 := ⟨by decide +kernel, rfl⟩
theorem kX6_restore_26 : Dk mtX6_restore 26 (.ifCond .ne 9) 3 29 := ⟨by decide +kernel, rfl⟩
theorem kX6_restore_29 : Dk mtX6_restore 29 (.aload_n 0) 1 30 := ⟨by decide +kernel, rfl⟩
theorem kX6_restore_30 : Dk mtX6_restore 30 (.iconst 2) 1 31 := ⟨by decide +kernel, rfl⟩
theorem kX6_restore_31 : Dk mtX6_restore 31 (.invokevirtual 127) 3 34 := ⟨by decide +kernel, rfl⟩
theorem kX6_restore_34 : Dk mtX6_restore 34 (.ireturn) 1 35 := ⟨by decide +kernel, rfl⟩
theorem kX6_restore_35 : Dk mtX6_restore 35 (.aload_n 0) 1 36 := ⟨by decide +kernel, rfl⟩
theorem kX6_restore_36 : Dk mtX6_restore 36 (.iconst 0) 1 37 := ⟨by decide +kernel, rfl⟩
theorem kX6_restore_37 : Dk mtX6_restore 37 (.putfield 43) 3 40 := ⟨by decide +kernel, rfl⟩
theorem kX6_restore_40 : Dk mtX6_restore 40 (.iconst 0) 1 41 := ⟨by decide +kernel, rfl⟩
theorem kX6_restore_41 : Dk mtX6_restore 41 (.istore_n 2) 1 42 := ⟨by decide +kernel, rfl⟩
theorem kX6_restore_42 : Dk mtX6_restore 42 (.iload_n 2) 1 43 := ⟨by decide +kernel, rfl⟩
theorem kX6_restore_43 : Dk mtX6_restore 43 (.sipush 140) 3 46 := ⟨by decide +kernel, rfl⟩
theorem kX6_restore_46 : Dk mtX6_restore 46 (.if_icmp .ge 27) 3 49 := ⟨by decide +kernel, rfl⟩
theorem kX6_restore_49 : Dk mtX6_restore 49 (.aload_n 0) 1 50 := ⟨by decide +kernel, rfl⟩
theorem kX6_restore_50 : Dk mtX6_restore 50 (.getfield 7) 3 53 := ⟨by decide +kernel, rfl⟩
theorem kX6_restore_53 : Dk mtX6_restore 53 (.iload_n 2) 1 54 := ⟨by decide +kernel, rfl⟩
theorem kX6_restore_54 : Dk mtX6_restore 54 (.aload_n 0) 1 55 := ⟨by decide +kernel, rfl⟩
theorem kX6_restore_55 : Dk mtX6_restore 55 (.getfield 19) 3 58 := ⟨by decide +kernel, rfl⟩
theorem kX6_restore_58 : Dk mtX6_restore 58 (.sipush 140) 3 61 := ⟨by decide +kernel, rfl⟩
theorem kX6_restore_61 : Dk mtX6_restore 61 (.iload_n 1) 1 62 := ⟨by decide +kernel, rfl⟩
theorem kX6_restore_62 : Dk mtX6_restore 62 (.imul) 1 63 := ⟨by decide +kernel, rfl⟩
theorem kX6_restore_63 : Dk mtX6_restore 63 (.iload_n 2) 1 64 := ⟨by decide +kernel, rfl⟩
theorem kX6_restore_64 : Dk mtX6_restore 64 (.iadd) 1 65 := ⟨by decide +kernel, rfl⟩
theorem kX6_restore_65 : Dk mtX6_restore 65 (.iaload) 1 66 := ⟨by decide +kernel, rfl⟩
theorem kX6_restore_66 : Dk mtX6_restore 66 (.iastore) 1 67 := ⟨by decide +kernel, rfl⟩
theorem kX6_restore_67 : Dk mtX6_restore 67 (.iinc 2 1) 3 70 := ⟨by decide +kernel, rfl⟩
theorem kX6_restore_70 : Dk mtX6_restore 70 (.goto (-28)) 3 73 := ⟨by decide +kernel, rfl⟩
theorem kX6_restore_73 : Dk mtX6_restore 73 (.aload_n 0) 1 74 := ⟨by decide +kernel, rfl⟩
theorem kX6_restore_74 : Dk mtX6_restore 74 (.getfield 7) 3 77 := ⟨by decide +kernel, rfl⟩
theorem kX6_restore_77 : Dk mtX6_restore 77 (.bipush 6) 2 79 := ⟨by decide +kernel, rfl⟩
theorem kX6_restore_79 : Dk mtX6_restore 79 (.iaload) 1 80 := ⟨by decide +kernel, rfl⟩
theorem kX6_restore_80 : Dk mtX6_restore 80 (.ireturn) 1 81 := ⟨by decide +kernel, rfl⟩
set_option maxHeartbeats 4000000 in
set_option maxRecDepth 100000 in
theorem ct_restore {l : Launch} {w : Wd} {sg : Sg} (hWr : Wr w) {mo : Nat} (a : Int32) : M l mtX6_restore w [vR (some (6, 0, mo)), vI a] sg (fM mo sg (K_restore sg mo a) (sg (mo + 4) (140 * tn a + 6)) (G_restore sg mo (tn a))) := by
  refine M_of [some (vR (some (6, 0, mo))), some (vI a), none] rfl (Nat.le_of_ble_eq_true rfl) (by decide +kernel) ?_
  intro p_ e_ s_ m_ args_ below_ meth_ c_ hC hO
  refine V_aload_n hC kX6_restore_0 rfl ?_
  refine V_iconst hC (0) kX6_restore_1 (by decide) ?_
  refine V_putI hC 6 0 lfX6_32 kX6_restore_2 (Nat.le_of_ble_eq_true rfl) (Nat.le_of_ble_eq_true rfl) rfl rfl ⟨rfl, rfl⟩ ?_
  refine V_nameS (fun sg0 e_sg0 => ?_)
  have hs1 : sg0 (mo + 1) = sg (mo + 1) := by rw [e_sg0]; exact upr_ne _ _ (by omega)
  have hs4 : sg0 mo 4 = sg mo 4 := by rw [e_sg0, ups_at]; exact pk_un (by decide)
  refine V_iload_n hC kX6_restore_5 rfl ?_
  refine V_iconst hC (0) kX6_restore_6 (by decide) ?_
  refine V_iconst hC (1) kX6_restore_7 (by decide) ?_
  refine V_cS_fI hC (ct_in hWr _ _ _) mkX6_in lmX6_39 kX6_restore_8 rfl rfl (Nat.le_of_ble_eq_true rfl) ⟨(Nat.le_of_ble_eq_true rfl), (Nat.le_of_ble_eq_true rfl)⟩ ⟨rfl, rfl⟩ ⟨(Nat.le_of_ble_eq_true rfl), (Nat.le_of_ble_eq_true rfl)⟩ ?_
  refine V_if_ne hC 20 kX6_restore_11 (by decide) (fun h11 => ?_) (fun h11 => ?_)
  · have hcc := b01n.mp h11
    have hv : vp_in a 2 := inn_vp (by decide) hcc
    have hs5 : sg0 (mo + 5) = sg (mo + 5) := by rw [e_sg0]; exact ups_ne _ _ _ (by omega)
    have hs2 : sg0 (mo + 4) = sg (mo + 4) := by rw [e_sg0]; exact ups_ne _ _ _ (by omega)
    refine V_aload_n hC kX6_restore_20 rfl ?_
    refine V_getR hC hWr 6 6 lfX6_22 kX6_restore_21 (Nat.le_of_ble_eq_true rfl) (Nat.le_of_ble_eq_true rfl) rfl ?_
    refine V_iload_n hC kX6_restore_24 rfl ?_
    refine V_zald hC _ rfl kX6_restore_25 hv ?_
    refine V_if_ne hC 35 kX6_restore_26 (by decide) (fun h26 => ?_) (fun h26 => ?_)
    · rw [hs5] at h26
      have hK : K_restore sg mo a = 0 := by rw [K_restore, if_pos hcc, if_neg h26]
      obtain ⟨N, hN, ea⟩ : ∃ N, N < 2 ∧ a = nI N := vp_in_of (inn_vp (by decide) hcc) (by decide)
      subst ea
      have et : tn (nI N) = N := nI_clamp (by omega)
      refine V_aload_n hC kX6_restore_35 rfl ?_
      refine V_iconst hC (0) kX6_restore_36 (by decide) ?_
      refine V_putI hC 6 4 lfX6_43 kX6_restore_37 (Nat.le_of_ble_eq_true rfl) (Nat.le_of_ble_eq_true rfl) rfl rfl ⟨rfl, rfl⟩ ?_
      refine V_iconst hC (0) kX6_restore_40 (by decide) ?_
      refine V_istore_n hC [some _, some _, some _] kX6_restore_41 rfl (Nat.le_of_ble_eq_true rfl) ?_
      refine V_canon (upr (ups sg0 mo 4 0) (mo + 1) (cpy (fun z => sg (mo + 4) (140 * N + z)) (sg (mo + 1)) 0)) (by rw [cpy_0, ← hs1, show sg0 (mo + 1) = ups sg0 mo 4 0 (mo + 1) from (ups_ne _ _ _ (by omega)).symm, upr_self]) ?_
      refine V_loop 140 (fun i => [some (vR (some (6, 0, mo))), some (vI (nI N)), some (vI (nI i))]) (fun i => upr (ups sg0 mo 4 0) (mo + 1) (cpy (fun z => sg (mo + 4) (140 * N + z)) (sg (mo + 1)) i)) rfl rfl ?_ (fun i hi ihi => ?_)
      · refine V_iload_n hC kX6_restore_42 rfl ?_
        refine V_sipush hC (140) kX6_restore_43 (by decide) ?_
        refine V_icmp_ge hC 73 kX6_restore_46 (by decide) (fun h46 => ?_) (fun h46 => absurd h46 (not_not_intro (nI_lit rfl)))
        refine V_aload_n hC kX6_restore_73 rfl ?_
        refine V_getR hC hWr 6 1 lfX6_7 kX6_restore_74 (Nat.le_of_ble_eq_true rfl) (Nat.le_of_ble_eq_true rfl) rfl ?_
        refine V_bipush hC (6) kX6_restore_77 (by decide) ?_
        refine V_iald hC 6 rfl kX6_restore_79 (vp_lit rfl) ?_
        refine V_ireti hC rfl kX6_restore_80 ?_
        exact fM_ok hK (by rw [upr_at, et]; exact if_pos (by decide)) (by rw [e_sg0, et]; unfold G_restore; rw [ups_comm _ _ _ _ (by decide : (0 : Nat) ≠ 4), ← ups_upr _ _ _ _ (by omega), ← ups_upr _ _ _ _ (by omega)])
      · refine V_iload_n hC kX6_restore_42 rfl ?_
        refine V_sipush hC (140) kX6_restore_43 (by decide) ?_
        refine V_icmp_ge hC 73 kX6_restore_46 (by decide) (fun h46 => absurd h46 (by exact nI_ge (b := 140) hi (by decide))) (fun h46 => ?_)
        refine V_aload_n hC kX6_restore_49 rfl ?_
        refine V_getR hC hWr 6 1 lfX6_7 kX6_restore_50 (Nat.le_of_ble_eq_true rfl) (Nat.le_of_ble_eq_true rfl) rfl ?_
        refine V_iload_n hC kX6_restore_53 rfl ?_
        refine V_aload_n hC kX6_restore_54 rfl ?_
        refine V_getR hC hWr 6 5 lfX6_19 kX6_restore_55 (Nat.le_of_ble_eq_true rfl) (Nat.le_of_ble_eq_true rfl) rfl ?_
        refine V_sipush hC (140) kX6_restore_58 (by decide) ?_
        refine V_iload_n hC kX6_restore_61 rfl ?_
        refine V_imul hC kX6_restore_62 ?_
        refine V_iload_n hC kX6_restore_63 rfl ?_
        refine V_iadd hC kX6_restore_64 ?_
        refine V_iald hC (140 * N + i) (ix_eq (a := 140) (by omega) rfl rfl) kX6_restore_65 (ix_in (a := 140) (by omega) (by decide) rfl rfl) ?_
        refine V_iast hC i (nI_clamp (by omega)) kX6_restore_66 (vp_in_nI hi (by decide)) ?_
        refine V_iinc hC (_ + 1) [some _, some _, some _] kX6_restore_67 rfl rfl rfl (Nat.le_of_ble_eq_true rfl) ?_
        refine V_goto hC 42 kX6_restore_70 (by decide) ?_
        refine V_eq (by rw [nI_succ]) ?_ ihi
        unfold ups
        rw [upr_at, upr_upr, upr_ne _ _ (show mo + 4 ≠ mo + 1 by omega), upr_ne _ _ (show mo + 4 ≠ mo by omega), hs2]
        exact congrArg _ (cpy_s (fun z => sg (mo + 4) (140 * N + z)) _ i)
    · refine V_aload_n hC kX6_restore_29 rfl ?_
      refine V_iconst hC (2) kX6_restore_30 (by decide) ?_
      refine V_cV_fI hC (ct_fails hWr 2) mkX6_fails lmX6_127 kX6_restore_31 (Nat.le_of_ble_eq_true rfl) rfl rfl rfl (Nat.le_of_ble_eq_true rfl) ⟨(Nat.le_of_ble_eq_true rfl), (Nat.le_of_ble_eq_true rfl)⟩ ⟨rfl, rfl⟩ ⟨(Nat.le_of_ble_eq_true rfl), (Nat.le_of_ble_eq_true rfl)⟩ ?_
      refine V_ireti hC rfl kX6_restore_34 ?_
      exact fM_no 2 (by rw [hs5] at h26; rw [K_restore, if_pos hcc, if_pos h26]) (by decide) (by rw [e_sg0, ups_ups])
  · refine V_aload_n hC kX6_restore_14 rfl ?_
    refine V_iconst hC (1) kX6_restore_15 (by decide) ?_
    refine V_cV_fI hC (ct_fails hWr 1) mkX6_fails lmX6_127 kX6_restore_16 (Nat.le_of_ble_eq_true rfl) rfl rfl rfl (Nat.le_of_ble_eq_true rfl) ⟨(Nat.le_of_ble_eq_true rfl), (Nat.le_of_ble_eq_true rfl)⟩ ⟨rfl, rfl⟩ ⟨(Nat.le_of_ble_eq_true rfl), (Nat.le_of_ble_eq_true rfl)⟩ ?_
    refine V_ireti hC rfl kX6_restore_19 ?_
    exact fM_no 1 (by rw [K_restore, if_neg (b01e.mp h11)]) (by decide) (by rw [e_sg0, ups_ups])
