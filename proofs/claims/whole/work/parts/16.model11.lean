-- HOW ct_in fI
-- HOW ct_fails fI
-- HOW ct_of fI
-- HOW ct_ofBoat fI
-- HOW ct_layBoat fV
-- HOW ct_isLight fI
-- HOW ct_isBoat fI
-- HOW ct_isPlace fI
-- HOW ct_bright fI
-- HOW ct_worth fI
-- HOW ct_serves fI
-- HOW ct_best fI
-- HOW ct_sails fV
-- HOW ct_drops fV
-- HOW ct_wished fI
-- HOW ct_hands fV
-- HOW ct_wishes fV
-- HOW ct_finds fV
-- HOW ct_goesOn fV
-- HOW ct_goesTick fV
-- HOW ct_goesBy fI
-- HOW ct_putAside fV
-- HOW ct_takeBack fV
-- HOW ct_isLamp fI
-- HOW ct_addsLight fI
-- HOW ct_actsLight fI
-- HOW ct_addsBoat fI
-- HOW ct_actsBoat fI
-- HOW ct_actsSteer fI
-- HOW ct_canTalk fI
-- HOW ct_actsTalk fI
-- HOW ct_actsLean fI
-- HOW ct_actsDim fI
-- HOW ct_mostOf fI
-- HOW ct_isSetting fI
-- HOW ct_actsSet fI
-- HOW ct_actsTicks fI
-- HOW ct_boatsThat fI
-- HOW ct_servedBy fI
-- HOW ct_begins fV
-- HOW ct_tellsAbout fI
-- HOW ct_about fM
-- HOW ct_lightOf fM
-- HOW ct_boatOf fM
-- HOW ct_brightness fM
-- HOW ct_bestAt fM
-- HOW ct_setting fM
-- HOW ct_saves fV
-- HOW ct_light fM
-- HOW ct_boat fM
-- HOW ct_steer fM
-- HOW ct_talk fM
-- HOW ct_lean fM
-- HOW ct_dim fM
-- HOW ct_set fM
-- HOW ct_ticks fM
-- HOW ct_undo fM
-- HOW ct_save fM
-- HOW ct_restore fM
-- HOW ct_bringsBy fI
-- HOW ct_ifMargin fM
-- HOW ct_held fI
-- HOW ct_room fI
-- HOW ct_dark fI
-- HOW ct_turns fV
-- HOW ct_simulate fM
-- HOW ct_border fM
-- HOW ct_handedIn fM
-- HOW ct_bestMargin fM
-- HOW ct_thrown fI
-- HOW ct_sign fI
-- HOW ct_number fI
-- HOW ct_carriesLight fI
-- HOW ct_carries fI
-- HOW ct_isCommand fI
-- HOW ct_append fM
-- HOW ct_clearText fM
-- HOW ct_readsAll fV
-- HOW ct_errorPosition fI
-- HOW ct_load rI
def mtX6_readsAll : Mt := (yX6_readsAll, cX6_readsAll, 3, none, 10, 230, 0, 0)
theorem kX6_readsAll_0 : Dk mtX6_readsAll 0 (.aload_n 0) 1 1 := ⟨by decide +kernel, rfl⟩
theorem kX6_readsAll_1 : Dk mtX6_readsAll 1 (.iconst 0) 1 2 := ⟨by decide +kernel, rfl⟩
theorem kX6_readsAll_2 : Dk mtX6_readsAll 2 (.putfield 133) 3 5 := ⟨by decide +kernel, rfl⟩
theorem kX6_readsAll_5 : Dk mtX6_readsAll 5 (.aload_n 0) 1 6 := ⟨by decide +kernel, rfl⟩
theorem kX6_readsAll_6 : Dk mtX6_readsAll 6 (.iconst 0) 1 7 := ⟨by decide +kernel, rfl⟩
theorem kX6_readsAll_7 : Dk mtX6_readsAll 7 (.putfield 169) 3 10 := ⟨by decide +kernel, rfl⟩
theorem kX6_readsAll_10 : Dk mtX6_readsAll 10 (.aload_n 0) 1 11 := ⟨by decide +kernel, rfl⟩
theorem kX6_readsAll_11 : Dk mtX6_readsAll 11 (.iload_n 1) 1 12 := ⟨by decide +kernel, rfl⟩
theorem kX6_readsAll_12 : Dk mtX6_readsAll 12 (.putfield 148) 3 15 := ⟨by decide +kernel, rfl⟩
theorem kX6_readsAll_15 : Dk mtX6_readsAll 15 (.aload_n 0) 1 16 := ⟨by decide +kernel, rfl⟩
theorem kX6_readsAll_16 : Dk mtX6_readsAll 16 (.aload_n 0) 1 17 := ⟨by decide +kernel, rfl⟩
theorem kX6_readsAll_17 : Dk mtX6_readsAll 17 (.invokevirtual 136) 3 20 := ⟨by decide +kernel, rfl⟩
theorem kX6_readsAll_20 : Dk mtX6_readsAll 20 (.bipush 67) 2 22 := ⟨by decide +kernel, rfl⟩
theorem kX6_readsAll_22 : Dk mtX6_readsAll 22 (.if_icmp .ne 7) 3 25 := ⟨by decide +kernel, rfl⟩
theorem kX6_readsAll_25 : Dk mtX6_readsAll 25 (.iconst 1) 1 26 := ⟨by decide +kernel, rfl⟩
theorem kX6_readsAll_26 : Dk mtX6_readsAll 26 (.goto 4) 3 29 := ⟨by decide +kernel, rfl⟩
theorem kX6_readsAll_29 : Dk mtX6_readsAll 29 (.iconst 0) 1 30 := ⟨by decide +kernel, rfl⟩
theorem kX6_readsAll_30 : Dk mtX6_readsAll 30 (.putfield 140) 3 33 := ⟨by decide +kernel, rfl⟩
theorem kX6_readsAll_33 : Dk mtX6_readsAll 33 (.aload_n 0) 1 34 := ⟨by decide +kernel, rfl⟩
theorem kX6_readsAll_34 : Dk mtX6_readsAll 34 (.dup) 1 35 := ⟨by decide +kernel, rfl⟩
theorem kX6_readsAll_35 : Dk mtX6_readsAll 35 (.getfield 133) 3 38 := ⟨by decide +kernel, rfl⟩
theorem kX6_readsAll_38 : Dk mtX6_readsAll 38 (.aload_n 0) 1 39 := ⟨by decide +kernel, rfl⟩
theorem kX6_readsAll_39 : Dk mtX6_readsAll 39 (.getfield 140) 3 42 := ⟨by decide +kernel, rfl⟩
theorem kX6_readsAll_42 : Dk mtX6_readsAll 42 (.ifCond .eq 7) 3 45 := ⟨by decide +kernel, rfl⟩
theorem kX6_readsAll_45 : Dk mtX6_readsAll 45 (.iconst 1) 1 46 := ⟨by decide +kernel, rfl⟩
theorem kX6_readsAll_46 : Dk mtX6_readsAll 46 (.goto 4) 3 49 := ⟨by decide +kernel, rfl⟩
theorem kX6_readsAll_49 : Dk mtX6_readsAll 49 (.iconst 0) 1 50 := ⟨by decide +kernel, rfl⟩
theorem kX6_readsAll_50 : Dk mtX6_readsAll 50 (.iadd) 1 51 := ⟨by decide +kernel, rfl⟩
theorem kX6_readsAll_51 : Dk mtX6_readsAll 51 (.putfield 133) 3 54 := ⟨by decide +kernel, rfl⟩
theorem kX6_readsAll_54 : Dk mtX6_readsAll 54 (.aload_n 0) 1 55 := ⟨by decide +kernel, rfl⟩
theorem kX6_readsAll_55 : Dk mtX6_readsAll 55 (.getfield 140) 3 58 := ⟨by decide +kernel, rfl⟩
theorem kX6_readsAll_58 : Dk mtX6_readsAll 58 (.ifCond .eq 94) 3 61 := ⟨by decide +kernel, rfl⟩
theorem kX6_readsAll_61 : Dk mtX6_readsAll 61 (.aload_n 0) 1 62 := ⟨by decide +kernel, rfl⟩
theorem kX6_readsAll_62 : Dk mtX6_readsAll 62 (.getfield 133) 3 65 := ⟨by decide +kernel, rfl⟩
theorem kX6_readsAll_65 : Dk mtX6_readsAll 65 (.aload_n 0) 1 66 := ⟨by decide +kernel, rfl⟩
theorem kX6_readsAll_66 : Dk mtX6_readsAll 66 (.getfield 130) 3 69 := ⟨by decide +kernel, rfl⟩
theorem kX6_readsAll_69 : Dk mtX6_readsAll 69 (.if_icmp .ge 83) 3 72 := ⟨by decide +kernel, rfl⟩
theorem kX6_readsAll_72 : Dk mtX6_readsAll 72 (.aload_n 0) 1 73 := ⟨by decide +kernel, rfl⟩
theorem kX6_readsAll_73 : Dk mtX6_readsAll 73 (.invokevirtual 136) 3 76 := ⟨by decide +kernel, rfl⟩
theorem kX6_readsAll_76 : Dk mtX6_readsAll 76 (.istore_n 2) 1 77 := ⟨by decide +kernel, rfl⟩
theorem kX6_readsAll_77 : Dk mtX6_readsAll 77 (.aload_n 0) 1 78 := ⟨by decide +kernel, rfl⟩
theorem kX6_readsAll_78 : Dk mtX6_readsAll 78 (.iload_n 2) 1 79 := ⟨by decide +kernel, rfl⟩
theorem kX6_readsAll_79 : Dk mtX6_readsAll 79 (.invokestatic 172) 3 82 := ⟨by decide +kernel, rfl⟩
theorem kX6_readsAll_82 : Dk mtX6_readsAll 82 (.putfield 140) 3 85 := ⟨by decide +kernel, rfl⟩
theorem kX6_readsAll_85 : Dk mtX6_readsAll 85 (.aload_n 0) 1 86 := ⟨by decide +kernel, rfl⟩
theorem kX6_readsAll_86 : Dk mtX6_readsAll 86 (.dup) 1 87 := ⟨by decide +kernel, rfl⟩
theorem kX6_readsAll_87 : Dk mtX6_readsAll 87 (.getfield 133) 3 90 := ⟨by decide +kernel, rfl⟩
theorem kX6_readsAll_90 : Dk mtX6_readsAll 90 (.aload_n 0) 1 91 := ⟨by decide +kernel, rfl⟩
theorem kX6_readsAll_91 : Dk mtX6_readsAll 91 (.getfield 140) 3 94 := ⟨by decide +kernel, rfl⟩
theorem kX6_readsAll_94 : Dk mtX6_readsAll 94 (.ifCond .eq 7) 3 97 := ⟨by decide +kernel, rfl⟩
theorem kX6_readsAll_97 : Dk mtX6_readsAll 97 (.iconst 1) 1 98 := ⟨by decide +kernel, rfl⟩
theorem kX6_readsAll_98 : Dk mtX6_readsAll 98 (.goto 4) 3 101 := ⟨by decide +kernel, rfl⟩
theorem kX6_readsAll_101 : Dk mtX6_readsAll 101 (.iconst 0) 1 102 := ⟨by decide +kernel, rfl⟩
theorem kX6_readsAll_102 : Dk mtX6_readsAll 102 (.iadd) 1 103 := ⟨by decide +kernel, rfl⟩
theorem kX6_readsAll_103 : Dk mtX6_readsAll 103 (.putfield 133) 3 106 := ⟨by decide +kernel, rfl⟩
theorem kX6_readsAll_106 : Dk mtX6_readsAll 106 (.aload_n 0) 1 107 := ⟨by decide +kernel, rfl⟩
theorem kX6_readsAll_107 : Dk mtX6_readsAll 107 (.getfield 140) 3 110 := ⟨by decide +kernel, rfl⟩
theorem kX6_readsAll_110 : Dk mtX6_readsAll 110 (.ifCond .eq 39) 3 113 := ⟨by decide +kernel, rfl⟩
theorem kX6_readsAll_113 : Dk mtX6_readsAll 113 (.aload_n 0) 1 114 := ⟨by decide +kernel, rfl⟩
theorem kX6_readsAll_114 : Dk mtX6_readsAll 114 (.dup) 1 115 := ⟨by decide +kernel, rfl⟩
theorem kX6_readsAll_115 : Dk mtX6_readsAll 115 (.getfield 169) 3 118 := ⟨by decide +kernel, rfl⟩
theorem kX6_readsAll_118 : Dk mtX6_readsAll 118 (.iload_n 2) 1 119 := ⟨by decide +kernel, rfl⟩
theorem kX6_readsAll_119 : Dk mtX6_readsAll 119 (.bipush 108) 2 121 := ⟨by decide +kernel, rfl⟩
theorem kX6_readsAll_121 : Dk mtX6_readsAll 121 (.if_icmp .ne 10) 3 124 := ⟨by decide +kernel, rfl⟩
theorem kX6_readsAll_124 : Dk mtX6_readsAll 124 (.aload_n 0) 1 125 := ⟨by decide +kernel, rfl⟩
theorem kX6_readsAll_125 : Dk mtX6_readsAll 125 (.invokevirtual 175) 3 128 := ⟨by decide +kernel, rfl⟩
theorem kX6_readsAll_128 : Dk mtX6_readsAll 128 (.goto 8) 3 131 := ⟨by decide +kernel, rfl⟩
theorem kX6_readsAll_131 : Dk mtX6_readsAll 131 (.aload_n 0) 1 132 := ⟨by decide +kernel, rfl⟩
theorem kX6_readsAll_132 : Dk mtX6_readsAll 132 (.iload_n 2) 1 133 := ⟨by decide +kernel, rfl⟩
theorem kX6_readsAll_133 : Dk mtX6_readsAll 133 (.invokevirtual 178) 3 136 := ⟨by decide +kernel, rfl⟩
theorem kX6_readsAll_136 : Dk mtX6_readsAll 136 (.iconst (-1)) 1 137 := ⟨by decide +kernel, rfl⟩
theorem kX6_readsAll_137 : Dk mtX6_readsAll 137 (.if_icmp .ne 7) 3 140 := ⟨by decide +kernel, rfl⟩
theorem kX6_readsAll_140 : Dk mtX6_readsAll 140 (.iconst 1) 1 141 := ⟨by decide +kernel, rfl⟩
theorem kX6_readsAll_141 : Dk mtX6_readsAll 141 (.goto 4) 3 144 := ⟨by decide +kernel, rfl⟩
theorem kX6_readsAll_144 : Dk mtX6_readsAll 144 (.iconst 0) 1 145 := ⟨by decide +kernel, rfl⟩
theorem kX6_readsAll_145 : Dk mtX6_readsAll 145 (.iadd) 1 146 := ⟨by decide +kernel, rfl⟩
theorem kX6_readsAll_146 : Dk mtX6_readsAll 146 (.putfield 169) 3 149 := ⟨by decide +kernel, rfl⟩
theorem kX6_readsAll_149 : Dk mtX6_readsAll 149 (.goto (-95)) 3 152 := ⟨by decide +kernel, rfl⟩
theorem kX6_readsAll_152 : Dk mtX6_readsAll 152 (.return_) 1 153 := ⟨by decide +kernel, rfl⟩
theorem lfX6_169 : LkF RX6 169 6 12 := Or.inl (by decide +kernel)
theorem lmX6_172 : LkM RX6 172 mtX6_isCommand := Or.inl (by decide +kernel)
theorem mkX6_isCommand : MkS mtX6_isCommand 1 := ⟨List.mem_of_getElem? (i := 1101) (by decide +kernel), by decide +kernel, by decide +kernel, ⟨by decide +kernel, by decide +kernel, by decide +kernel⟩⟩
theorem lmX6_178 : LkM RX6 178 mtX6_carries := Or.inl (by decide +kernel)
theorem mkX6_carries : MkV mtX6_carries 1 := ⟨List.mem_of_getElem? (i := 1127) (by decide +kernel), by decide +kernel, by decide +kernel, by decide +kernel, ⟨by decide +kernel, by decide +kernel, by decide +kernel⟩⟩
theorem lmX6_175 : LkM RX6 175 mtX6_carriesLight := Or.inl (by decide +kernel)
theorem mkX6_carriesLight : MkV mtX6_carriesLight 0 := ⟨List.mem_of_getElem? (i := 1105) (by decide +kernel), by decide +kernel, by decide +kernel, by decide +kernel, ⟨by decide +kernel, by decide +kernel, by decide +kernel⟩⟩
set_option maxHeartbeats 4000000 in
set_option maxRecDepth 100000 in
theorem ct_readsAll {l : Launch} {w : Wd} {sg : Sg} (hWr : Wr w) {mo n : Nat} (d : Int32) (hd : d = 0 ∨ d = 1) (hn : n ≤ 120) (en : sg mo 8 = nI n) (hI : Inv (sg (mo + 1))) : M l mtX6_readsAll w [vR (some (6, 0, mo)), vI d] sg (fV0 (upr (upr sg mo (F_reads (sg (mo + 6)) (sg mo) (sg (mo + 1)) d).1) (mo + 1) (F_reads (sg (mo + 6)) (sg mo) (sg (mo + 1)) d).2)) := by
  refine M_of [some (vR (some (6, 0, mo))), some (vI d), none] rfl (Nat.le_of_ble_eq_true rfl) (by decide +kernel) ?_
  intro p_ e_ s_ m_ args_ below_ meth_ c_ hC hO
  refine V_aload_n hC kX6_readsAll_0 rfl ?_
  refine V_iconst hC (0) kX6_readsAll_1 (by decide) ?_
  refine V_putI hC 6 9 lfX6_133 kX6_readsAll_2 (Nat.le_of_ble_eq_true rfl) (Nat.le_of_ble_eq_true rfl) rfl rfl ⟨rfl, rfl⟩ ?_
  refine V_aload_n hC kX6_readsAll_5 rfl ?_
  refine V_iconst hC (0) kX6_readsAll_6 (by decide) ?_
  refine V_putI hC 6 12 lfX6_169 kX6_readsAll_7 (Nat.le_of_ble_eq_true rfl) (Nat.le_of_ble_eq_true rfl) rfl rfl ⟨rfl, rfl⟩ ?_
  refine V_aload_n hC kX6_readsAll_10 rfl ?_
  refine V_iload_n hC kX6_readsAll_11 rfl ?_
  refine V_putI hC 6 11 lfX6_148 kX6_readsAll_12 (Nat.le_of_ble_eq_true rfl) (Nat.le_of_ble_eq_true rfl) rfl rfl (nar01 hd) ?_
  refine V_canon (upr sg mo (F_ra (sg mo) d)) (by unfold ups F_ra; simp only [upr_at, upr_upr]) ?_
  refine V_aload_n hC kX6_readsAll_15 rfl ?_
  refine V_join 30 (b01 (F_sign (F_ra (sg mo) d) (sg (mo + 6)) = 67)) ?_ (fun j30 => ?_)
  · refine V_putI hC 6 10 lfX6_140 kX6_readsAll_30 (Nat.le_of_ble_eq_true rfl) (Nat.le_of_ble_eq_true rfl) rfl rfl (b01_nar _) ?_
    refine V_canon (upr sg mo (upd (F_ra (sg mo) d) 10 (b01 (F_sign (F_ra (sg mo) d) (sg (mo + 6)) = 67)))) (by unfold ups; simp only [upr_at, upr_upr]) ?_
    refine V_aload_n hC kX6_readsAll_33 rfl ?_
    refine V_dup hC kX6_readsAll_34 rfl ?_
    refine V_getI hC 6 9 lfX6_133 kX6_readsAll_35 (Nat.le_of_ble_eq_true rfl) (Nat.le_of_ble_eq_true rfl) rfl ?_
    refine V_join 50 (b01 (F_sign (F_ra (sg mo) d) (sg (mo + 6)) = 67)) ?_ (fun j50 => ?_)
    · refine V_iadd hC kX6_readsAll_50 ?_
      refine V_putI hC 6 9 lfX6_133 kX6_readsAll_51 (Nat.le_of_ble_eq_true rfl) (Nat.le_of_ble_eq_true rfl) rfl rfl ⟨rfl, rfl⟩ ?_
      obtain ⟨S, N, hS0, hRd, hNo, hgo0, hTi0, hIi0, hno, hyes⟩ := rds_all (sg (mo + 6)) (sg mo) (sg (mo + 1)) d hn en hI
      refine V_canon (upr (upr sg mo (S 0).1) (mo + 1) (S 0).2) (by rw [hS0]; show _ = upr (upr sg mo (F_r0 (sg (mo + 6)) (sg mo) d)) (mo + 1) (sg (mo + 1)); unfold ups; rw [upr_at, upr_upr, pk_un (show (9 : Nat) ≠ 10 by decide), upr_same (upr_ne _ _ (by omega)), F_r0]) ?_
      refine V_loop N (fun i => [some (vR (some (6, 0, mo))), some (vI d), none]) (fun i => upr (upr sg mo (S i).1) (mo + 1) (S i).2) rfl rfl ?_ (fun i hi ihi => ?_)
      · refine V_aload_n hC kX6_readsAll_54 rfl ?_
        refine V_getI hC 6 10 lfX6_140 kX6_readsAll_55 (Nat.le_of_ble_eq_true rfl) (Nat.le_of_ble_eq_true rfl) rfl ?_
        refine V_if_eq hC 152 kX6_readsAll_58 (by decide) (fun h58 => ?_) (fun h58 => ?_)
        · refine V_vret hC rfl kX6_readsAll_152 ?_
          rw [hRd]
          exact ⟨by with_reducible rfl, by with_reducible rfl⟩
        · refine V_aload_n hC kX6_readsAll_61 rfl ?_
          refine V_getI hC 6 9 lfX6_133 kX6_readsAll_62 (Nat.le_of_ble_eq_true rfl) (Nat.le_of_ble_eq_true rfl) rfl ?_
          refine V_aload_n hC kX6_readsAll_65 rfl ?_
          refine V_getI hC 6 8 lfX6_130 kX6_readsAll_66 (Nat.le_of_ble_eq_true rfl) (Nat.le_of_ble_eq_true rfl) rfl ?_
          refine V_icmp_ge hC 152 kX6_readsAll_69 (by decide) (fun h69 => ?_) (fun h69 => absurd h69 (not_not_intro (Int32.not_lt.mp (fun z => hNo ⟨by rw [upr_ne _ _ (by omega), upr_at] at h58; exact h58, by rw [upr_ne _ _ (by omega), upr_at] at z; exact z⟩))))
          refine V_vret hC rfl kX6_readsAll_152 ?_
          rw [hRd]
          exact ⟨by with_reducible rfl, by with_reducible rfl⟩
      · have hgo := hgo0 i hi
        have hTi := hTi0 i (Nat.le_of_lt hi)
        have hIi := hIi0 i
        refine V_aload_n hC kX6_readsAll_54 rfl ?_
        refine V_getI hC 6 10 lfX6_140 kX6_readsAll_55 (Nat.le_of_ble_eq_true rfl) (Nat.le_of_ble_eq_true rfl) rfl ?_
        refine V_if_eq hC 152 kX6_readsAll_58 (by decide) (fun h58 => absurd h58 (by rw [upr_ne _ _ (by omega), upr_at]; exact hgo.1)) (fun h58 => ?_)
        refine V_aload_n hC kX6_readsAll_61 rfl ?_
        refine V_getI hC 6 9 lfX6_133 kX6_readsAll_62 (Nat.le_of_ble_eq_true rfl) (Nat.le_of_ble_eq_true rfl) rfl ?_
        refine V_aload_n hC kX6_readsAll_65 rfl ?_
        refine V_getI hC 6 8 lfX6_130 kX6_readsAll_66 (Nat.le_of_ble_eq_true rfl) (Nat.le_of_ble_eq_true rfl) rfl ?_
        refine V_icmp_ge hC 152 kX6_readsAll_69 (by decide) (fun h69 => absurd h69 (by rw [upr_ne _ _ (by omega), upr_at]; exact Int32.not_le.mpr hgo.2)) (fun h69 => ?_)
        refine V_aload_n hC kX6_readsAll_72 rfl ?_
        refine V_cV_fI hC (ct_sign hWr (by rw [upr_ne _ _ (by omega), upr_at]; exact hTi)) mkX6_sign lmX6_136 kX6_readsAll_73 (Nat.le_of_ble_eq_true rfl) rfl rfl rfl (Nat.le_of_ble_eq_true rfl) ⟨(Nat.le_of_ble_eq_true rfl), (Nat.le_of_ble_eq_true rfl)⟩ ⟨rfl, rfl⟩ ⟨(Nat.le_of_ble_eq_true rfl), (Nat.le_of_ble_eq_true rfl)⟩ ?_
        refine V_nameI (fun a1 e_a1 => ?_)
        refine V_istore_n hC [some _, some _, some _] kX6_readsAll_76 rfl (Nat.le_of_ble_eq_true rfl) ?_
        rw [upr_ne _ _ (by omega), upr_at, upr_ne _ _ (by omega), upr_ne _ _ (by omega)] at e_a1
        refine V_aload_n hC kX6_readsAll_77 rfl ?_
        refine V_iload_n hC kX6_readsAll_78 rfl ?_
        refine V_cS_fI hC (ct_isCommand hWr a1) mkX6_isCommand lmX6_172 kX6_readsAll_79 rfl rfl (Nat.le_of_ble_eq_true rfl) ⟨(Nat.le_of_ble_eq_true rfl), (Nat.le_of_ble_eq_true rfl)⟩ ⟨rfl, rfl⟩ ⟨(Nat.le_of_ble_eq_true rfl), (Nat.le_of_ble_eq_true rfl)⟩ ?_
        refine V_putI hC 6 10 lfX6_140 kX6_readsAll_82 (Nat.le_of_ble_eq_true rfl) (Nat.le_of_ble_eq_true rfl) rfl rfl (b01_nar _) ?_
        refine V_canon (upr (upr sg mo (upd (S i).1 10 (b01 (cCmd a1)))) (mo + 1) (S i).2) (ups_in _ _ _ _ _ (by omega)) ?_
        refine V_aload_n hC kX6_readsAll_85 rfl ?_
        refine V_dup hC kX6_readsAll_86 rfl ?_
        refine V_getI hC 6 9 lfX6_133 kX6_readsAll_87 (Nat.le_of_ble_eq_true rfl) (Nat.le_of_ble_eq_true rfl) rfl ?_
        refine V_join 102 (b01 (cCmd a1)) ?_ (fun j102 => ?_)
        · refine V_iadd hC kX6_readsAll_102 ?_
          refine V_putI hC 6 9 lfX6_133 kX6_readsAll_103 (Nat.le_of_ble_eq_true rfl) (Nat.le_of_ble_eq_true rfl) rfl rfl ⟨rfl, rfl⟩ ?_
          refine V_canon (upr (upr sg mo (F_rc (sg (mo + 6)) (S i).1)) (mo + 1) (S i).2) (by rw [ups_in _ _ _ _ _ (by omega), upr_ne _ _ (by omega), upr_at, pk_un (by decide), F_rc, ← e_a1]) ?_
          refine V_aload_n hC kX6_readsAll_106 rfl ?_
          refine V_nameS (fun sg2 e_sg2 => ?_)
          have hM : sg2 mo = F_rc (sg (mo + 6)) (S i).1 := by rw [e_sg2]; rw [upr_ne _ _ (by omega), upr_at]
          have h1 : sg2 (mo + 1) = (S i).2 := by rw [e_sg2, upr_at]
          have h6 : sg2 (mo + 6) = sg (mo + 6) := by rw [e_sg2, upr_ne _ _ (by omega), upr_ne _ _ (by omega)]
          refine V_getI hC 6 10 lfX6_140 kX6_readsAll_107 (Nat.le_of_ble_eq_true rfl) (Nat.le_of_ble_eq_true rfl) rfl ?_
          refine V_if_eq hC 149 kX6_readsAll_110 (by decide) (fun h110 => ?_) (fun h110 => ?_)
          · refine V_goto hC 54 kX6_readsAll_149 (by decide) ?_
            refine V_drop 2 [_, _, none] rfl ?_
            refine V_eq rfl ?_ ihi
            rw [hM, rc_10, ← e_a1] at h110
            rw [hno i (by rw [← e_a1]; exact b01e.mp h110), e_sg2]
          · refine V_aload_n hC kX6_readsAll_113 rfl ?_
            refine V_dup hC kX6_readsAll_114 rfl ?_
            refine V_getI hC 6 12 lfX6_169 kX6_readsAll_115 (Nat.le_of_ble_eq_true rfl) (Nat.le_of_ble_eq_true rfl) rfl ?_
            refine V_iload_n hC kX6_readsAll_118 rfl ?_
            refine V_bipush hC (108) kX6_readsAll_119 (by decide) ?_
            refine V_icmp_ne hC 131 kX6_readsAll_121 (by decide) (fun h121 => ?_) (fun h121 => ?_)
            · refine V_aload_n hC kX6_readsAll_131 rfl ?_
              refine V_iload_n hC kX6_readsAll_132 rfl ?_
              refine V_cV_fI hC (ct_carries hWr (b01n.mp (by rw [hM, rc_10, ← e_a1] at h110; exact h110)) h121 (by rw [hM]; exact hTi.rc hgo.2) (by rw [h1]; exact hIi)) mkX6_carries lmX6_178 kX6_readsAll_133 (Nat.le_of_ble_eq_true rfl) rfl rfl rfl (Nat.le_of_ble_eq_true rfl) ⟨(Nat.le_of_ble_eq_true rfl), (Nat.le_of_ble_eq_true rfl)⟩ ⟨rfl, rfl⟩ ⟨(Nat.le_of_ble_eq_true rfl), (Nat.le_of_ble_eq_true rfl)⟩ ?_
              refine V_iconst hC (-1) kX6_readsAll_136 (by decide) ?_
              refine V_icmp_ne hC 144 kX6_readsAll_137 (by decide) (fun h137 => ?_) (fun h137 => ?_)
              · refine V_iconst hC (0) kX6_readsAll_144 (by decide) ?_
                refine V_iadd hC kX6_readsAll_145 ?_
                refine V_putI hC 6 12 lfX6_169 kX6_readsAll_146 (Nat.le_of_ble_eq_true rfl) (Nat.le_of_ble_eq_true rfl) rfl rfl ⟨rfl, rfl⟩ ?_
                refine V_goto hC 54 kX6_readsAll_149 (by decide) ?_
                refine V_drop 2 [_, _, none] rfl ?_
                refine V_eq rfl ?_ ihi
                rw [hM, h1, h6] at h137
                rw [hM, h1, h6, ups_in _ _ _ _ _ (by omega), e_sg2, upr2 _ _ _ _ _ (by omega), hyes i a1 0 e_a1 (b01n.mp (by rw [hM, rc_10, ← e_a1] at h110; exact h110)) (b01_f h137).symm]
              · refine V_iconst hC (1) kX6_readsAll_140 (by decide) ?_
                refine V_goto hC 145 kX6_readsAll_141 (by decide) ?_
                refine V_iadd hC kX6_readsAll_145 ?_
                refine V_putI hC 6 12 lfX6_169 kX6_readsAll_146 (Nat.le_of_ble_eq_true rfl) (Nat.le_of_ble_eq_true rfl) rfl rfl ⟨rfl, rfl⟩ ?_
                refine V_goto hC 54 kX6_readsAll_149 (by decide) ?_
                refine V_drop 2 [_, _, none] rfl ?_
                refine V_eq rfl ?_ ihi
                rw [hM, h1, h6] at h137
                rw [hM, h1, h6, ups_in _ _ _ _ _ (by omega), e_sg2, upr2 _ _ _ _ _ (by omega), hyes i a1 1 e_a1 (b01n.mp (by rw [hM, rc_10, ← e_a1] at h110; exact h110)) (b01_t h137).symm]
            · refine V_aload_n hC kX6_readsAll_124 rfl ?_
              obtain rfl : a1 = 108 := h121
              refine V_cV_fI hC (ct_carriesLight hWr (by rw [hM]; exact hTi.rc hgo.2) (by rw [h1]; exact hIi)) mkX6_carriesLight lmX6_175 kX6_readsAll_125 (Nat.le_of_ble_eq_true rfl) rfl rfl rfl (Nat.le_of_ble_eq_true rfl) ⟨(Nat.le_of_ble_eq_true rfl), (Nat.le_of_ble_eq_true rfl)⟩ ⟨rfl, rfl⟩ ⟨(Nat.le_of_ble_eq_true rfl), (Nat.le_of_ble_eq_true rfl)⟩ ?_
              refine V_goto hC 136 kX6_readsAll_128 (by decide) ?_
              refine V_iconst hC (-1) kX6_readsAll_136 (by decide) ?_
              refine V_icmp_ne hC 144 kX6_readsAll_137 (by decide) (fun h137 => ?_) (fun h137 => ?_)
              · refine V_iconst hC (0) kX6_readsAll_144 (by decide) ?_
                refine V_iadd hC kX6_readsAll_145 ?_
                refine V_putI hC 6 12 lfX6_169 kX6_readsAll_146 (Nat.le_of_ble_eq_true rfl) (Nat.le_of_ble_eq_true rfl) rfl rfl ⟨rfl, rfl⟩ ?_
                refine V_goto hC 54 kX6_readsAll_149 (by decide) ?_
                refine V_drop 2 [_, _, none] rfl ?_
                refine V_eq rfl ?_ ihi
                rw [hM, h1, h6] at h137
                rw [hM, h1, h6, ups_in _ _ _ _ _ (by omega), e_sg2, upr2 _ _ _ _ _ (by omega), hyes i 108 0 e_a1 (b01n.mp (by rw [hM, rc_10, ← e_a1] at h110; exact h110)) (b01_f h137).symm]
              · refine V_iconst hC (1) kX6_readsAll_140 (by decide) ?_
                refine V_goto hC 145 kX6_readsAll_141 (by decide) ?_
                refine V_iadd hC kX6_readsAll_145 ?_
                refine V_putI hC 6 12 lfX6_169 kX6_readsAll_146 (Nat.le_of_ble_eq_true rfl) (Nat.le_of_ble_eq_true rfl) rfl rfl ⟨rfl, rfl⟩ ?_
                refine V_goto hC 54 kX6_readsAll_149 (by decide) ?_
                refine V_drop 2 [_, _, none] rfl ?_
                refine V_eq rfl ?_ ihi
                rw [hM, h1, h6] at h137
                rw [hM, h1, h6, ups_in _ _ _ _ _ (by omega), e_sg2, upr2 _ _ _ _ _ (by omega), hyes i 108 1 e_a1 (b01n.mp (by rw [hM, rc_10, ← e_a1] at h110; exact h110)) (b01_t h137).symm]
        · refine V_aload_n hC kX6_readsAll_90 rfl ?_
          refine V_getI hC 6 10 lfX6_140 kX6_readsAll_91 (Nat.le_of_ble_eq_true rfl) (Nat.le_of_ble_eq_true rfl) rfl ?_
          refine V_if_eq hC 101 kX6_readsAll_94 (by decide) (fun h94 => ?_) (fun h94 => ?_)
          · refine V_iconst hC (0) kX6_readsAll_101 (by decide) ?_
            exact j102 _ ((by rw [upr_ne _ _ (by omega), upr_at] at h94; rw [pk_us] at h94; exact h94.symm))
          · refine V_iconst hC (1) kX6_readsAll_97 (by decide) ?_
            refine V_goto hC 102 kX6_readsAll_98 (by decide) ?_
            exact j102 _ ((by rw [upr_ne _ _ (by omega), upr_at] at h94; rw [pk_us] at h94; exact (b01_t (b01n.mp h94)).symm))
    · refine V_aload_n hC kX6_readsAll_38 rfl ?_
      refine V_getI hC 6 10 lfX6_140 kX6_readsAll_39 (Nat.le_of_ble_eq_true rfl) (Nat.le_of_ble_eq_true rfl) rfl ?_
      refine V_if_eq hC 49 kX6_readsAll_42 (by decide) (fun h42 => ?_) (fun h42 => ?_)
      · refine V_iconst hC (0) kX6_readsAll_49 (by decide) ?_
        exact j50 _ ((by rw [upr_at, pk_us] at h42; exact h42.symm))
      · refine V_iconst hC (1) kX6_readsAll_45 (by decide) ?_
        refine V_goto hC 50 kX6_readsAll_46 (by decide) ?_
        exact j50 _ ((by rw [upr_at, pk_us] at h42; exact (b01_t (b01n.mp h42)).symm))
  · refine V_aload_n hC kX6_readsAll_16 rfl ?_
    refine V_cV_fI hC (ct_sign hWr (by rw [upr_at]; exact TI_ra hn en d)) mkX6_sign lmX6_136 kX6_readsAll_17 (Nat.le_of_ble_eq_true rfl) rfl rfl rfl (Nat.le_of_ble_eq_true rfl) ⟨(Nat.le_of_ble_eq_true rfl), (Nat.le_of_ble_eq_true rfl)⟩ ⟨rfl, rfl⟩ ⟨(Nat.le_of_ble_eq_true rfl), (Nat.le_of_ble_eq_true rfl)⟩ ?_
    refine V_bipush hC (67) kX6_readsAll_20 (by decide) ?_
    refine V_icmp_ne hC 29 kX6_readsAll_22 (by decide) (fun h22 => ?_) (fun h22 => ?_)
    · refine V_iconst hC (0) kX6_readsAll_29 (by decide) ?_
      exact j30 _ ((b01_f (fun z => h22 (by rw [upr_at, upr_ne _ _ (by omega)]; exact z))).symm)
    · refine V_iconst hC (1) kX6_readsAll_25 (by decide) ?_
      refine V_goto hC 30 kX6_readsAll_26 (by decide) ?_
      exact j30 _ ((b01_t (by rw [upr_at, upr_ne _ _ (by omega)] at h22; exact h22)).symm)
def mtX6_errorPosition : Mt := (yX6_errorPosition, cX6_errorPosition, 1, (some .int), 11, 252, 0, 0)
theorem kX6_errorPosition_0 : Dk mtX6_errorPosition 0 (.aload_n 0) 1 1 := ⟨by decide +kernel, rfl⟩
theorem kX6_errorPosition_1 : Dk mtX6_errorPosition 1 (.iconst 0) 1 2 := ⟨by decide +kernel, rfl⟩
theorem kX6_errorPosition_2 : Dk mtX6_errorPosition 2 (.putfield 32) 3 5 := ⟨by decide +kernel, rfl⟩
theorem kX6_errorPosition_5 : Dk mtX6_errorPosition 5 (.aload_n 0) 1 6 := ⟨by decide +kernel, rfl⟩
theorem kX6_errorPosition_6 : Dk mtX6_errorPosition 6 (.iconst 0) 1 7 := ⟨by decide +kernel, rfl⟩
theorem kX6_errorPosition_7 : Dk mtX6_errorPosition 7 (.invokevirtual 181) 3 10 := ⟨by decide +kernel, rfl⟩
theorem kX6_errorPosition_10 : Dk mtX6_errorPosition 10 (.aload_n 0) 1 11 := ⟨by decide +kernel, rfl⟩
theorem kX6_errorPosition_11 : Dk mtX6_errorPosition 11 (.getfield 140) 3 14 := ⟨by decide +kernel, rfl⟩
theorem kX6_errorPosition_14 : Dk mtX6_errorPosition 14 (.ifCond .eq 7) 3 17 := ⟨by decide +kernel, rfl⟩
theorem kX6_errorPosition_17 : Dk mtX6_errorPosition 17 (.iconst (-1)) 1 18 := ⟨by decide +kernel, rfl⟩
theorem kX6_errorPosition_18 : Dk mtX6_errorPosition 18 (.goto 7) 3 21 := ⟨by decide +kernel, rfl⟩
theorem kX6_errorPosition_21 : Dk mtX6_errorPosition 21 (.aload_n 0) 1 22 := ⟨by decide +kernel, rfl⟩
theorem kX6_errorPosition_22 : Dk mtX6_errorPosition 22 (.getfield 133) 3 25 := ⟨by decide +kernel, rfl⟩
theorem kX6_errorPosition_25 : Dk mtX6_errorPosition 25 (.ireturn) 1 26 := ⟨by decide +kernel, rfl⟩
theorem lmX6_181 : LkM RX6 181 mtX6_readsAll := Or.inl (by decide +kernel)
theorem mkX6_readsAll : MkV mtX6_readsAll 1 := ⟨List.mem_of_getElem? (i := 1094) (by decide +kernel), by decide +kernel, by decide +kernel, by decide +kernel, ⟨by decide +kernel, by decide +kernel, by decide +kernel⟩⟩
set_option maxHeartbeats 4000000 in
set_option maxRecDepth 100000 in
theorem ct_errorPosition {l : Launch} {w : Wd} {sg : Sg} (hWr : Wr w) {mo n : Nat} (hn : n ≤ 120) (en : sg mo 8 = nI n) (hI : Inv (sg (mo + 1))) : M l mtX6_errorPosition w [vR (some (6, 0, mo))] sg (fI (F_err (F_chk sg mo)) (upr sg mo (F_chk sg mo))) := by
  refine M_of [some (vR (some (6, 0, mo)))] rfl (Nat.le_of_ble_eq_true rfl) (by decide +kernel) ?_
  intro p_ e_ s_ m_ args_ below_ meth_ c_ hC hO
  refine V_aload_n hC kX6_errorPosition_0 rfl ?_
  refine V_iconst hC (0) kX6_errorPosition_1 (by decide) ?_
  refine V_putI hC 6 0 lfX6_32 kX6_errorPosition_2 (Nat.le_of_ble_eq_true rfl) (Nat.le_of_ble_eq_true rfl) rfl rfl ⟨rfl, rfl⟩ ?_
  refine V_nameS (fun sg0 e_sg0 => ?_)
  have hs1 : sg0 (mo + 1) = sg (mo + 1) := by rw [e_sg0]; exact upr_ne _ _ (by omega)
  have hs6 : sg0 (mo + 6) = sg (mo + 6) := by rw [e_sg0]; exact upr_ne _ _ (by omega)
  have hsm : sg0 mo = upd (sg mo) 0 0 := by rw [e_sg0]; exact upr_at _ _ _
  have hs8 : sg0 mo 8 = nI n := by rw [hsm, pk_un (by decide), en]
  refine V_aload_n hC kX6_errorPosition_5 rfl ?_
  refine V_iconst hC (0) kX6_errorPosition_6 (by decide) ?_
  refine V_cV_fV hC (ct_readsAll hWr 0 (Or.inl rfl) hn hs8 (by rw [hs1]; exact hI)) mkX6_readsAll lmX6_181 kX6_errorPosition_7 (Nat.le_of_ble_eq_true rfl) rfl rfl rfl (Nat.le_of_ble_eq_true rfl) ⟨(Nat.le_of_ble_eq_true rfl), (Nat.le_of_ble_eq_true rfl)⟩ ⟨rfl, rfl⟩ ⟨(Nat.le_of_ble_eq_true rfl), (Nat.le_of_ble_eq_true rfl)⟩ ?_
  refine V_canon (upr sg mo (F_chk sg mo)) (by rw [hsm, hs1, hs6, reads_idle, e_sg0, ups, upr_upr, upr_same (upr_ne _ _ (by omega)), F_chk]) ?_
  refine V_aload_n hC kX6_errorPosition_10 rfl ?_
  refine V_getI hC 6 10 lfX6_140 kX6_errorPosition_11 (Nat.le_of_ble_eq_true rfl) (Nat.le_of_ble_eq_true rfl) rfl ?_
  refine V_if_eq hC 21 kX6_errorPosition_14 (by decide) (fun h14 => ?_) (fun h14 => ?_)
  · refine V_aload_n hC kX6_errorPosition_21 rfl ?_
    refine V_getI hC 6 9 lfX6_133 kX6_errorPosition_22 (Nat.le_of_ble_eq_true rfl) (Nat.le_of_ble_eq_true rfl) rfl ?_
    refine V_ireti hC rfl kX6_errorPosition_25 ?_
    refine ⟨cI ?_, by with_reducible rfl⟩
    rw [upr_at] at h14
    first
    | (rw [upr_at, F_err, if_pos h14]; done)
    | (rw [F_err, if_neg h14]; done)
  · refine V_iconst hC (-1) kX6_errorPosition_17 (by decide) ?_
    refine V_goto hC 25 kX6_errorPosition_18 (by decide) ?_
    refine V_ireti hC rfl kX6_errorPosition_25 ?_
    refine ⟨cI ?_, by with_reducible rfl⟩
    rw [upr_at] at h14
    first
    | (rw [upr_at, F_err, if_pos h14]; done)
    | (rw [F_err, if_neg h14]; done)
def mtX6_load : Mt := (yX6_load, cX6_load, 1, (some .int), 11, 252, 0, 0)
theorem kX6_load_0 : Dk mtX6_load 0 (.aload_n 0) 1 1 := ⟨by decide +kernel, rfl⟩
theorem kX6_load_1 : Dk mtX6_load 1 (.iconst 0) 1 2 := ⟨by decide +kernel, rfl⟩
theorem kX6_load_2 : Dk mtX6_load 2 (.putfield 32) 3 5 := ⟨by decide +kernel, rfl⟩
theorem kX6_load_5 : Dk mtX6_load 5 (.aload_n 0) 1 6 := ⟨by decide +kernel, rfl⟩
theorem kX6_load_6 : Dk mtX6_load 6 (.iconst 0) 1 7 := ⟨by decide +kernel, rfl⟩
theorem kX6_load_7 : Dk mtX6_load 7 (.invokevirtual 181) 3 10 := ⟨by decide +kernel, rfl⟩
theorem kX6_load_10 : Dk mtX6_load 10 (.aload_n 0) 1 11 := ⟨by decide +kernel, rfl⟩
theorem kX6_load_11 : Dk mtX6_load 11 (.getfield 140) 3 14 := ⟨by decide +kernel, rfl⟩
theorem kX6_load_14 : Dk mtX6_load 14 (.ifCond .ne 9) 3 17 := ⟨by decide +kernel, rfl⟩
theorem kX6_load_17 : Dk mtX6_load 17 (.aload_n 0) 1 18 := ⟨by decide +kernel, rfl⟩
theorem kX6_load_18 : Dk mtX6_load 18 (.iconst 1) 1 19 := ⟨by decide +kernel, rfl⟩
theorem kX6_load_19 : Dk mtX6_load 19 (.invokevirtual 127) 3 22 := ⟨by decide +kernel, rfl⟩
theorem kX6_load_22 : Dk mtX6_load 22 (.ireturn) 1 23 := ⟨by decide +kernel, rfl⟩
theorem kX6_load_23 : Dk mtX6_load 23 (.aload_n 0) 1 24 := ⟨by decide +kernel, rfl⟩
theorem kX6_load_24 : Dk mtX6_load 24 (.invokevirtual 36) 3 27 := ⟨by decide +kernel, rfl⟩
theorem kX6_load_27 : Dk mtX6_load 27 (.aload_n 0) 1 28 := ⟨by decide +kernel, rfl⟩
theorem kX6_load_28 : Dk mtX6_load 28 (.iconst 0) 1 29 := ⟨by decide +kernel, rfl⟩
theorem kX6_load_29 : Dk mtX6_load 29 (.putfield 43) 3 32 := ⟨by decide +kernel, rfl⟩
theorem kX6_load_32 : Dk mtX6_load 32 (.aload_n 0) 1 33 := ⟨by decide +kernel, rfl⟩
theorem kX6_load_33 : Dk mtX6_load 33 (.getfield 22) 3 36 := ⟨by decide +kernel, rfl⟩
theorem kX6_load_36 : Dk mtX6_load 36 (.iconst 0) 1 37 := ⟨by decide +kernel, rfl⟩
theorem kX6_load_37 : Dk mtX6_load 37 (.iconst 0) 1 38 := ⟨by decide +kernel, rfl⟩
theorem kX6_load_38 : Dk mtX6_load 38 (.bastore) 1 39 := ⟨by decide +kernel, rfl⟩
theorem kX6_load_39 : Dk mtX6_load 39 (.aload_n 0) 1 40 := ⟨by decide +kernel, rfl⟩
theorem kX6_load_40 : Dk mtX6_load 40 (.getfield 22) 3 43 := ⟨by decide +kernel, rfl⟩
theorem kX6_load_43 : Dk mtX6_load 43 (.iconst 1) 1 44 := ⟨by decide +kernel, rfl⟩
theorem kX6_load_44 : Dk mtX6_load 44 (.iconst 0) 1 45 := ⟨by decide +kernel, rfl⟩
theorem kX6_load_45 : Dk mtX6_load 45 (.bastore) 1 46 := ⟨by decide +kernel, rfl⟩
theorem kX6_load_46 : Dk mtX6_load 46 (.aload_n 0) 1 47 := ⟨by decide +kernel, rfl⟩
theorem kX6_load_47 : Dk mtX6_load 47 (.iconst 1) 1 48 := ⟨by decide +kernel, rfl⟩
theorem kX6_load_48 : Dk mtX6_load 48 (.invokevirtual 181) 3 51 := ⟨by decide +kernel, rfl⟩
theorem kX6_load_51 : Dk mtX6_load 51 (.aload_n 0) 1 52 := ⟨by decide +kernel, rfl⟩
theorem kX6_load_52 : Dk mtX6_load 52 (.getfield 169) 3 55 := ⟨by decide +kernel, rfl⟩
theorem kX6_load_55 : Dk mtX6_load 55 (.ireturn) 1 56 := ⟨by decide +kernel, rfl⟩
theorem lmX6_36 : LkM RX6 36 mtX6_begins := Or.inl (by decide +kernel)
theorem mkX6_begins : MkV mtX6_begins 0 := ⟨List.mem_of_getElem? (i := 1023) (by decide +kernel), by decide +kernel, by decide +kernel, by decide +kernel, ⟨by decide +kernel, by decide +kernel, by decide +kernel⟩⟩
set_option maxHeartbeats 4000000 in
set_option maxRecDepth 100000 in
theorem ct_load {l : Launch} {w : Wd} {sg : Sg} (hWr : Wr w) {mo n : Nat} (hn : n ≤ 120) (en : sg mo 8 = nI n) (hI : Inv (sg (mo + 1))) : M l mtX6_load w [vR (some (6, 0, mo))] sg (rI (P_load sg mo)) := by
  refine M_of [some (vR (some (6, 0, mo)))] rfl (Nat.le_of_ble_eq_true rfl) (by decide +kernel) ?_
  intro p_ e_ s_ m_ args_ below_ meth_ c_ hC hO
  refine V_aload_n hC kX6_load_0 rfl ?_
  refine V_iconst hC (0) kX6_load_1 (by decide) ?_
  refine V_putI hC 6 0 lfX6_32 kX6_load_2 (Nat.le_of_ble_eq_true rfl) (Nat.le_of_ble_eq_true rfl) rfl rfl ⟨rfl, rfl⟩ ?_
  refine V_nameS (fun sg0 e_sg0 => ?_)
  have hs1 : sg0 (mo + 1) = sg (mo + 1) := by rw [e_sg0]; exact upr_ne _ _ (by omega)
  have hs6 : sg0 (mo + 6) = sg (mo + 6) := by rw [e_sg0]; exact upr_ne _ _ (by omega)
  have hsm : sg0 mo = upd (sg mo) 0 0 := by rw [e_sg0]; exact upr_at _ _ _
  have hs8 : sg0 mo 8 = nI n := by rw [hsm, pk_un (by decide), en]
  refine V_aload_n hC kX6_load_5 rfl ?_
  refine V_iconst hC (0) kX6_load_6 (by decide) ?_
  refine V_cV_fV hC (ct_readsAll hWr 0 (Or.inl rfl) hn hs8 (by rw [hs1]; exact hI)) mkX6_readsAll lmX6_181 kX6_load_7 (Nat.le_of_ble_eq_true rfl) rfl rfl rfl (Nat.le_of_ble_eq_true rfl) ⟨(Nat.le_of_ble_eq_true rfl), (Nat.le_of_ble_eq_true rfl)⟩ ⟨rfl, rfl⟩ ⟨(Nat.le_of_ble_eq_true rfl), (Nat.le_of_ble_eq_true rfl)⟩ ?_
  refine V_canon (upr sg mo (F_chk sg mo)) (by rw [hsm, hs1, hs6, reads_idle, e_sg0, ups, upr_upr, upr_same (upr_ne _ _ (by omega)), F_chk]) ?_
  refine V_aload_n hC kX6_load_10 rfl ?_
  refine V_getI hC 6 10 lfX6_140 kX6_load_11 (Nat.le_of_ble_eq_true rfl) (Nat.le_of_ble_eq_true rfl) rfl ?_
  refine V_if_ne hC 23 kX6_load_14 (by decide) (fun h14 => ?_) (fun h14 => ?_)
  · refine V_aload_n hC kX6_load_23 rfl ?_
    refine V_cV_fV hC (ct_begins hWr) mkX6_begins lmX6_36 kX6_load_24 (Nat.le_of_ble_eq_true rfl) rfl rfl rfl (Nat.le_of_ble_eq_true rfl) ⟨(Nat.le_of_ble_eq_true rfl), (Nat.le_of_ble_eq_true rfl)⟩ ⟨rfl, rfl⟩ ⟨(Nat.le_of_ble_eq_true rfl), (Nat.le_of_ble_eq_true rfl)⟩ ?_
    refine V_aload_n hC kX6_load_27 rfl ?_
    refine V_iconst hC (0) kX6_load_28 (by decide) ?_
    refine V_putI hC 6 4 lfX6_43 kX6_load_29 (Nat.le_of_ble_eq_true rfl) (Nat.le_of_ble_eq_true rfl) rfl rfl ⟨rfl, rfl⟩ ?_
    refine V_nameS (fun sg2 e_sg2 => ?_)
    have hM : sg2 mo = upd (F_chk sg mo) 4 0 := by rw [e_sg2, ups_at, upr_ne _ _ (by omega), upr_at]
    have h1 : sg2 (mo + 1) = F_begins (sg (mo + 1)) := by rw [e_sg2, ups_ne _ _ _ (by omega), upr_at, upr_ne _ _ (by omega)]
    have h5 : sg2 (mo + 5) = sg (mo + 5) := by rw [e_sg2, ups_ne _ _ _ (by omega), upr_ne _ _ (by omega), upr_ne _ _ (by omega)]
    have h6 : sg2 (mo + 6) = sg (mo + 6) := by rw [e_sg2, ups_ne _ _ _ (by omega), upr_ne _ _ (by omega), upr_ne _ _ (by omega)]
    have e8 : F_chk sg mo 8 = nI n := by rw [F_chk, reads_un (by decide), pk_un (by decide), en]
    refine V_aload_n hC kX6_load_32 rfl ?_
    refine V_getR hC hWr 6 6 lfX6_22 kX6_load_33 (Nat.le_of_ble_eq_true rfl) (Nat.le_of_ble_eq_true rfl) rfl ?_
    refine V_iconst hC (0) kX6_load_36 (by decide) ?_
    refine V_iconst hC (0) kX6_load_37 (by decide) ?_
    refine V_zast hC 0 rfl kX6_load_38 (vp_lit rfl) rfl ?_
    refine V_aload_n hC kX6_load_39 rfl ?_
    refine V_getR hC hWr 6 6 lfX6_22 kX6_load_40 (Nat.le_of_ble_eq_true rfl) (Nat.le_of_ble_eq_true rfl) rfl ?_
    refine V_iconst hC (1) kX6_load_43 (by decide) ?_
    refine V_iconst hC (0) kX6_load_44 (by decide) ?_
    refine V_zast hC 1 rfl kX6_load_45 (vp_lit rfl) rfl ?_
    refine V_canon (upr sg2 (mo + 5) (upd (upd (sg (mo + 5)) 0 0) 1 0)) (by unfold ups; rw [upr_at, upr_upr, h5]) ?_
    refine V_aload_n hC kX6_load_46 rfl ?_
    refine V_iconst hC (1) kX6_load_47 (by decide) ?_
    refine V_cV_fV hC (ct_readsAll hWr 1 (Or.inr rfl) hn (by rw [upr_ne _ _ (by omega), hM, pk_un (by decide), e8]) (by rw [upr_ne _ _ (by omega), h1]; exact Inv_begins _)) mkX6_readsAll lmX6_181 kX6_load_48 (Nat.le_of_ble_eq_true rfl) rfl rfl rfl (Nat.le_of_ble_eq_true rfl) ⟨(Nat.le_of_ble_eq_true rfl), (Nat.le_of_ble_eq_true rfl)⟩ ⟨rfl, rfl⟩ ⟨(Nat.le_of_ble_eq_true rfl), (Nat.le_of_ble_eq_true rfl)⟩ ?_
    refine V_aload_n hC kX6_load_51 rfl ?_
    refine V_getI hC 6 12 lfX6_169 kX6_load_52 (Nat.le_of_ble_eq_true rfl) (Nat.le_of_ble_eq_true rfl) rfl ?_
    refine V_ireti hC rfl kX6_load_55 ?_
    refine ⟨_, rfl, fun z => absurd z (by rw [upr_at] at h14; exact h14), fun _ => ?_⟩
    rw [upr_ne _ _ (by omega), upr_at]
    have f1 : upr sg2 (mo + 5) (upd (upd (sg (mo + 5)) 0 0) 1 0) mo = upd (F_chk sg mo) 4 0 := by rw [upr_ne _ _ (by omega), hM]
    have f2 : upr sg2 (mo + 5) (upd (upd (sg (mo + 5)) 0 0) 1 0) (mo + 1) = F_begins (sg (mo + 1)) := by rw [upr_ne _ _ (by omega), h1]
    have f3 : upr sg2 (mo + 5) (upd (upd (sg (mo + 5)) 0 0) 1 0) (mo + 6) = sg (mo + 6) := by rw [upr_ne _ _ (by omega), h6]
    rw [f1, f2, f3]
    unfold F_ld
    generalize F_reads (sg (mo + 6)) (upd (F_chk sg mo) 4 0) (F_begins (sg (mo + 1))) 1 = q
    refine ⟨by with_reducible rfl, ?_⟩
    funext k
    by_cases k1 : k = mo + 1
    · subst k1; rw [upr_at, upr_at]
    · rw [upr_ne _ _ k1, upr_ne _ _ k1]
      by_cases k2 : k = mo
      · subst k2; rw [upr_at, upr_at]
      · rw [upr_ne _ _ k2, upr_ne _ _ k2]
        by_cases k3 : k = mo + 5
        · subst k3; rw [upr_at, upr_at]
        · rw [upr_ne _ _ k3, upr_ne _ _ k3, e_sg2, ups_ne _ _ _ k2, upr_ne _ _ k1, upr_ne _ _ k2]
  · refine V_aload_n hC kX6_load_17 rfl ?_
    refine V_iconst hC (1) kX6_load_18 (by decide) ?_
    refine V_cV_fI hC (ct_fails hWr 1) mkX6_fails lmX6_127 kX6_load_19 (Nat.le_of_ble_eq_true rfl) rfl rfl rfl (Nat.le_of_ble_eq_true rfl) ⟨(Nat.le_of_ble_eq_true rfl), (Nat.le_of_ble_eq_true rfl)⟩ ⟨rfl, rfl⟩ ⟨(Nat.le_of_ble_eq_true rfl), (Nat.le_of_ble_eq_true rfl)⟩ ?_
    refine V_ireti hC rfl kX6_load_22 ?_
    refine ⟨_, rfl, fun _ => ⟨rfl, ?_⟩, fun z => absurd (by rw [upr_at] at h14; exact h14) z⟩
    rw [ups, upr_at, upr_upr]
