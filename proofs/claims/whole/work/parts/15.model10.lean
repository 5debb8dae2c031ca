-- HOW ct_in fI
-- HOW ct_fails fI
-- HOW ct_of fI
-- HOW ct_ofBoat fI
-- HOW ct_layBoat fV
-- HOW ct_isLight fI
-- HOW ct_isBoat fI
-- HOW ct_isPlace fI
-- HOW ct_bright fI
-- HOW ct_worth fI
-- HOW ct_serves fI
-- HOW ct_best fI
-- HOW ct_sails fV
-- HOW ct_drops fV
-- HOW ct_wished fI
-- HOW ct_hands fV
-- HOW ct_wishes fV
-- HOW ct_finds fV
-- HOW ct_goesOn fV
-- HOW ct_goesTick fV
-- HOW ct_goesBy fI
-- HOW ct_putAside fV
-- HOW ct_takeBack fV
-- HOW ct_isLamp fI
-- HOW ct_addsLight fI
-- HOW ct_actsLight fI
-- HOW ct_addsBoat fI
-- HOW ct_actsBoat fI
-- HOW ct_actsSteer fI
-- HOW ct_canTalk fI
-- HOW ct_actsTalk fI
-- HOW ct_actsLean fI
-- HOW ct_actsDim fI
-- HOW ct_mostOf fI
-- HOW ct_isSetting fI
-- HOW ct_actsSet fI
-- HOW ct_actsTicks fI
-- HOW ct_boatsThat fI
-- HOW ct_servedBy fI
-- HOW ct_begins fV
-- HOW ct_tellsAbout fI
-- HOW ct_about fM
-- HOW ct_lightOf fM
-- HOW ct_boatOf fM
-- HOW ct_brightness fM
-- HOW ct_bestAt fM
-- HOW ct_setting fM
-- HOW ct_saves fV
-- HOW ct_light fM
-- HOW ct_boat fM
-- HOW ct_steer fM
-- HOW ct_talk fM
-- HOW ct_lean fM
-- HOW ct_dim fM
-- HOW ct_set fM
-- HOW ct_ticks fM
-- HOW ct_undo fM
-- HOW ct_save fM
-- HOW ct_restore fM
-- HOW ct_bringsBy fI
-- HOW ct_ifMargin fM
-- HOW ct_held fI
-- HOW ct_room fI
-- HOW ct_dark fI
-- HOW ct_turns fV
-- HOW ct_simulate fM
-- HOW ct_border fM
-- HOW ct_handedIn fM
-- HOW ct_bestMargin fM
-- HOW ct_thrown fI
-- HOW ct_sign fI
-- HOW ct_number fI
-- HOW ct_carriesLight fI
-- HOW ct_carries fI
-- HOW ct_isCommand fI
-- HOW ct_append fM
-- HOW ct_clearText fM
/-! the reference: the text as a whole -/
def K_append (c : Int32) (n : Nat) : Int32 := if inn c 0 255 then (if n = 120 then 2 else 0) else 1
def G_append (sg : Sg) (mo n : Nat) (c : Int32) : Sg := ups (upr sg (mo + 6) (upd (sg (mo + 6)) n c)) mo 8 (nI (n + 1))
def mtX6_isCommand : Mt := (yX6_isCommand, cX6_isCommand, 1, (some .boolean), 0, 0, 0, 0)
theorem kX6_isCommand_0 : Dk mtX6_isCommand 0 (.iload_n 0) 1 1 := ⟨by decide +kernel, rfl⟩
theorem kX6_isCommand_1 : Dk mtX6_isCommand 1 (.bipush 108) 2 3 := ⟨by decide +kernel, rfl⟩
theorem kX6_isCommand_3 : Dk mtX6_isCommand 3 (.if_icmp .eq 33) 3 6 := ⟨by decide +kernel, rfl⟩
theorem kX6_isCommand_6 : Dk mtX6_isCommand 6 (.iload_n 0) 1 7 := ⟨by decide +kernel, rfl⟩
theorem kX6_isCommand_7 : Dk mtX6_isCommand 7 (.bipush 98) 2 9 := ⟨by decide +kernel, rfl⟩
theorem kX6_isCommand_9 : Dk mtX6_isCommand 9 (.if_icmp .eq 27) 3 12 := ⟨by decide +kernel, rfl⟩
theorem kX6_isCommand_12 : Dk mtX6_isCommand 12 (.iload_n 0) 1 13 := ⟨by decide +kernel, rfl⟩
theorem kX6_isCommand_13 : Dk mtX6_isCommand 13 (.bipush 107) 2 15 := ⟨by decide +kernel, rfl⟩
theorem kX6_isCommand_15 : Dk mtX6_isCommand 15 (.if_icmp .eq 21) 3 18 := ⟨by decide +kernel, rfl⟩
theorem kX6_isCommand_18 : Dk mtX6_isCommand 18 (.iload_n 0) 1 19 := ⟨by decide +kernel, rfl⟩
theorem kX6_isCommand_19 : Dk mtX6_isCommand 19 (.bipush 118) 2 21 := ⟨by decide +kernel, rfl⟩
theorem kX6_isCommand_21 : Dk mtX6_isCommand 21 (.if_icmp .eq 15) 3 24 := ⟨by decide +kernel, rfl⟩
theorem kX6_isCommand_24 : Dk mtX6_isCommand 24 (.iload_n 0) 1 25 := ⟨by decide +kernel, rfl⟩
theorem kX6_isCommand_25 : Dk mtX6_isCommand 25 (.bipush 109) 2 27 := ⟨by decide +kernel, rfl⟩
theorem kX6_isCommand_27 : Dk mtX6_isCommand 27 (.if_icmp .eq 9) 3 30 := ⟨by decide +kernel, rfl⟩
theorem kX6_isCommand_30 : Dk mtX6_isCommand 30 (.iload_n 0) 1 31 := ⟨by decide +kernel, rfl⟩
theorem kX6_isCommand_31 : Dk mtX6_isCommand 31 (.bipush 116) 2 33 := ⟨by decide +kernel, rfl⟩
theorem kX6_isCommand_33 : Dk mtX6_isCommand 33 (.if_icmp .ne 7) 3 36 := ⟨by decide +kernel, rfl⟩
theorem kX6_isCommand_36 : Dk mtX6_isCommand 36 (.iconst 1) 1 37 := ⟨by decide +kernel, rfl⟩
theorem kX6_isCommand_37 : Dk mtX6_isCommand 37 (.goto 4) 3 40 := ⟨by decide +kernel, rfl⟩
theorem kX6_isCommand_40 : Dk mtX6_isCommand 40 (.iconst 0) 1 41 := ⟨by decide +kernel, rfl⟩
theorem kX6_isCommand_41 : Dk mtX6_isCommand 41 (.ireturn) 1 42 := ⟨by decide +kernel, rfl⟩
set_option maxHeartbeats 4000000 in
set_option maxRecDepth 100000 in
theorem ct_isCommand {l : Launch} {w : Wd} {sg : Sg} (hWr : Wr w) (a : Int32) : M l mtX6_isCommand w [vI a] sg (fI (b01 (cCmd a)) sg) := by
  refine M_of [some (vI a)] rfl (Nat.le_of_ble_eq_true rfl) (by decide +kernel) ?_
  intro p_ e_ s_ m_ args_ below_ meth_ c_ hC hO
  refine V_join 41 (b01 (cCmd a)) ?_ (fun j41 => ?_)
  · refine V_iretz hC rfl kX6_isCommand_41 ?_ ?_
    · exact b01_z _
    · exact ⟨by with_reducible rfl, by with_reducible rfl⟩
  · refine V_iload_n hC kX6_isCommand_0 rfl ?_
    refine V_bipush hC (108) kX6_isCommand_1 (by decide) ?_
    refine V_icmp_eq hC 36 kX6_isCommand_3 (by decide) (fun h3 => ?_) (fun h3 => ?_)
    · refine V_iconst hC (1) kX6_isCommand_36 (by decide) ?_
      refine V_goto hC 41 kX6_isCommand_37 (by decide) ?_
      exact j41 _ ((b01_t (Or.inl h3)).symm)
    · refine V_iload_n hC kX6_isCommand_6 rfl ?_
      refine V_bipush hC (98) kX6_isCommand_7 (by decide) ?_
      refine V_icmp_eq hC 36 kX6_isCommand_9 (by decide) (fun h9 => ?_) (fun h9 => ?_)
      · refine V_iconst hC (1) kX6_isCommand_36 (by decide) ?_
        refine V_goto hC 41 kX6_isCommand_37 (by decide) ?_
        exact j41 _ ((b01_t (Or.inr (Or.inl h9))).symm)
      · refine V_iload_n hC kX6_isCommand_12 rfl ?_
        refine V_bipush hC (107) kX6_isCommand_13 (by decide) ?_
        refine V_icmp_eq hC 36 kX6_isCommand_15 (by decide) (fun h15 => ?_) (fun h15 => ?_)
        · refine V_iconst hC (1) kX6_isCommand_36 (by decide) ?_
          refine V_goto hC 41 kX6_isCommand_37 (by decide) ?_
          exact j41 _ ((b01_t (Or.inr (Or.inr (Or.inl h15)))).symm)
        · refine V_iload_n hC kX6_isCommand_18 rfl ?_
          refine V_bipush hC (118) kX6_isCommand_19 (by decide) ?_
          refine V_icmp_eq hC 36 kX6_isCommand_21 (by decide) (fun h21 => ?_) (fun h21 => ?_)
          · refine V_iconst hC (1) kX6_isCommand_36 (by decide) ?_
            refine V_goto hC 41 kX6_isCommand_37 (by decide) ?_
            exact j41 _ ((b01_t (Or.inr (Or.inr (Or.inr (Or.inl h21))))).symm)
          · refine V_iload_n hC kX6_isCommand_24 rfl ?_
            refine V_bipush hC (109) kX6_isCommand_25 (by decide) ?_
            refine V_icmp_eq hC 36 kX6_isCommand_27 (by decide) (fun h27 => ?_) (fun h27 => ?_)
            · refine V_iconst hC (1) kX6_isCommand_36 (by decide) ?_
              refine V_goto hC 41 kX6_isCommand_37 (by decide) ?_
              exact j41 _ ((b01_t (Or.inr (Or.inr (Or.inr (Or.inr (Or.inl h27)))))).symm)
            · refine V_iload_n hC kX6_isCommand_30 rfl ?_
              refine V_bipush hC (116) kX6_isCommand_31 (by decide) ?_
              refine V_icmp_ne hC 40 kX6_isCommand_33 (by decide) (fun h33 => ?_) (fun h33 => ?_)
              · refine V_iconst hC (0) kX6_isCommand_40 (by decide) ?_
                exact j41 _ ((b01_f (fun z => by rcases z with z | z | z | z | z | z <;> contradiction)).symm)
              · refine V_iconst hC (1) kX6_isCommand_36 (by decide) ?_
                refine V_goto hC 41 kX6_isCommand_37 (by decide) ?_
                exact j41 _ ((b01_t (Or.inr (Or.inr (Or.inr (Or.inr (Or.inr h33)))))).symm)
def mtX6_append : Mt := (yX6_append, cX6_append, 2, (some .int), 1, 22, 0, 0)
theorem kX6_append_0 : Dk mtX6_append 0 (.aload_n 0) 1 1 := ⟨by decide +kernel, rfl⟩
theorem kX6_append_1 : Dk mtX6_append 1 (.iconst 0) 1 2 := ⟨by decide +kernel, rfl⟩
theorem kX6_append_2 : Dk mtX6_append 2 (.putfield 32) 3 5 := ⟨by decide +kernel, rfl⟩
theorem kX6_append_5 : Dk mtX6_append 5 (.iload_n 1) 1 6 := ⟨by decide +kernel, rfl⟩
theorem kX6_append_6 : Dk mtX6_append 6 (.iconst 0) 1 7 := ⟨by decide +kernel, rfl⟩
theorem kX6_append_7 : Dk mtX6_append 7 (.sipush 255) 3 10 := ⟨by decide +kernel, rfl⟩
theorem kX6_append_10 : Dk mtX6_append 10 (.invokestatic 39) 3 13 := ⟨by decide +kernel, rfl⟩
theorem kX6_append_13 : Dk mtX6_append 13 (.ifCond .ne 9) 3 16 := ⟨by decide +kernel, rfl⟩
theorem kX6_append_16 : Dk mtX6_append 16 (.aload_n 0) 1 17 := ⟨by decide +kernel, rfl⟩
theorem kX6_append_17 : Dk mtX6_append 17 (.iconst 1) 1 18 := ⟨by decide +kernel, rfl⟩
theorem kX6_append_18 : Dk mtX6_append 18 (.invokevirtual 127) 3 21 := ⟨by decide +kernel, rfl⟩
theorem kX6_append_21 : Dk mtX6_append 21 (.ireturn) 1 22 := ⟨by decide +kernel, rfl⟩
theorem kX6_append_22 : Dk mtX6_append 22 (.aload_n 0) 1 23 := ⟨by decide +kernel, rfl⟩
theorem kX6_append_23 : Dk mtX6_append 23 (.getfield 130) 3 26 := ⟨by decide +kernel, rfl⟩
theorem kX6_append_26 : Dk mtX6_append 26 (.bipush 120) 2 28 := ⟨by decide +kernel, rfl⟩
theorem kX6_append_28 : Dk mtX6_append 28 (.if_icmp .ne 9) 3 31 := ⟨by decide +kernel, rfl⟩
theorem kX6_append_31 : Dk mtX6_append 31 (.aload_n 0) 1 32 := ⟨by decide +kernel, rfl⟩
theorem kX6_append_32 : Dk mtX6_append 32 (.iconst 2) 1 33 := ⟨by decide +kernel, rfl⟩
theorem kX6_append_33 : Dk mtX6_append 33 (.invokevirtual 127) 3 36 := ⟨by decide +kernel, rfl⟩
theorem kX6_append_36 : Dk mtX6_append 36 (.ireturn) 1 37 := ⟨by decide +kernel, rfl⟩
theorem kX6_append_37 : Dk mtX6_append 37 (.aload_n 0) 1 38 := ⟨by decide +kernel, rfl⟩
theorem kX6_append_38 : Dk mtX6_append 38 (.getfield 26) 3 41 := ⟨by decide +kernel, rfl⟩
theorem kX6_append_41 : Dk mtX6_append 41 (.aload_n 0) 1 42 := ⟨by decide +kernel, rfl⟩
theorem kX6_append_42 : Dk mtX6_append 42 (.getfield 130) 3 45 := ⟨by decide +kernel, rfl⟩
theorem kX6_append_45 : Dk mtX6_append 45 (.iload_n 1) 1 46 := ⟨by decide +kernel, rfl⟩
theorem kX6_append_46 : Dk mtX6_append 46 (.iastore) 1 47 := ⟨by decide +kernel, rfl⟩
theorem kX6_append_47 : Dk mtX6_append 47 (.aload_n 0) 1 48 := ⟨by decide +kernel, rfl⟩
theorem kX6_append_48 : Dk mtX6_append 48 (.dup) 1 49 := ⟨by decide +kernel, rfl⟩
theorem kX6_append_49 : Dk mtX6_append 49 (.getfield 130) 3 52 := ⟨by decide +kernel, rfl⟩
theorem kX6_append_52 : Dk mtX6_append 52 (.iconst 1) 1 53 := ⟨by decide +kernel, rfl⟩
theorem kX6_append_53 : Dk mtX6_append 53 (.iadd) 1 54 := ⟨by decide +kernel, rfl⟩
theorem kX6_append_54 : Dk mtX6_append 54 (.putfield 130) 3 57 := ⟨by decide +kernel, rfl⟩
theorem kX6_append_57 : Dk mtX6_append 57 (.aload_n 0) 1 58 := ⟨by decide +kernel, rfl⟩
theorem kX6_append_58 : Dk mtX6_append 58 (.getfield 130) 3 61 := ⟨by decide +kernel, rfl⟩
theorem kX6_append_61 : Dk mtX6_append 61 (.ireturn) 1 62 := ⟨by decide +kernel, rfl⟩
set_option maxHeartbeats 4000000 in
set_option maxRecDepth 100000 in
theorem ct_append {l : Launch} {w : Wd} {sg : Sg} (hWr : Wr w) {mo n : Nat} (a : Int32) (hn : n ≤ 120) (en : sg mo 8 = nI n) : M l mtX6_append w [vR (some (6, 0, mo)), vI a] sg (fM mo sg (K_append a n) (nI (n + 1)) (G_append sg mo n a)) := by
  refine M_of [some (vR (some (6, 0, mo))), some (vI a)] rfl (Nat.le_of_ble_eq_true rfl) (by decide +kernel) ?_
  intro p_ e_ s_ m_ args_ below_ meth_ c_ hC hO
  refine V_aload_n hC kX6_append_0 rfl ?_
  refine V_iconst hC (0) kX6_append_1 (by decide) ?_
  refine V_putI hC 6 0 lfX6_32 kX6_append_2 (Nat.le_of_ble_eq_true rfl) (Nat.le_of_ble_eq_true rfl) rfl rfl ⟨rfl, rfl⟩ ?_
  refine V_nameS (fun sg0 e_sg0 => ?_)
  have hs6 : sg0 (mo + 6) = sg (mo + 6) := by rw [e_sg0]; exact upr_ne _ _ (by omega)
  have hs8 : sg0 mo 8 = sg mo 8 := by rw [e_sg0, ups_at]; exact pk_un (by decide)
  refine V_iload_n hC kX6_append_5 rfl ?_
  refine V_iconst hC (0) kX6_append_6 (by decide) ?_
  refine V_sipush hC (255) kX6_append_7 (by decide) ?_
  refine V_cS_fI hC (ct_in hWr _ _ _) mkX6_in lmX6_39 kX6_append_10 rfl rfl (Nat.le_of_ble_eq_true rfl) ⟨(Nat.le_of_ble_eq_true rfl), (Nat.le_of_ble_eq_true rfl)⟩ ⟨rfl, rfl⟩ ⟨(Nat.le_of_ble_eq_true rfl), (Nat.le_of_ble_eq_true rfl)⟩ ?_
  refine V_if_ne hC 22 kX6_append_13 (by decide) (fun h13 => ?_) (fun h13 => ?_)
  · refine V_aload_n hC kX6_append_22 rfl ?_
    refine V_getI hC 6 8 lfX6_130 kX6_append_23 (Nat.le_of_ble_eq_true rfl) (Nat.le_of_ble_eq_true rfl) rfl ?_
    refine V_bipush hC (120) kX6_append_26 (by decide) ?_
    refine V_icmp_ne hC 37 kX6_append_28 (by decide) (fun h28 => ?_) (fun h28 => ?_)
    · have hn2 : n < 120 := Nat.lt_of_le_of_ne hn (fun z => h28 (by rw [hs8, en, z]; rfl))
      have e8 : sg0 mo 8 = nI n := hs8.trans en
      refine V_aload_n hC kX6_append_37 rfl ?_
      refine V_getR hC hWr 6 7 lfX6_26 kX6_append_38 (Nat.le_of_ble_eq_true rfl) (Nat.le_of_ble_eq_true rfl) rfl ?_
      refine V_aload_n hC kX6_append_41 rfl ?_
      refine V_getI hC 6 8 lfX6_130 kX6_append_42 (Nat.le_of_ble_eq_true rfl) (Nat.le_of_ble_eq_true rfl) rfl ?_
      refine V_iload_n hC kX6_append_45 rfl ?_
      refine V_iast hC n (by rw [e8]; exact nI_clamp (by omega)) kX6_append_46 (by rw [e8]; exact vp_in_nI hn2 (by decide)) ?_
      refine V_aload_n hC kX6_append_47 rfl ?_
      refine V_dup hC kX6_append_48 rfl ?_
      refine V_getI hC 6 8 lfX6_130 kX6_append_49 (Nat.le_of_ble_eq_true rfl) (Nat.le_of_ble_eq_true rfl) rfl ?_
      refine V_iconst hC (1) kX6_append_52 (by decide) ?_
      refine V_iadd hC kX6_append_53 ?_
      refine V_putI hC 6 8 lfX6_130 kX6_append_54 (Nat.le_of_ble_eq_true rfl) (Nat.le_of_ble_eq_true rfl) rfl rfl ⟨rfl, rfl⟩ ?_
      refine V_aload_n hC kX6_append_57 rfl ?_
      refine V_getI hC 6 8 lfX6_130 kX6_append_58 (Nat.le_of_ble_eq_true rfl) (Nat.le_of_ble_eq_true rfl) rfl ?_
      refine V_ireti hC rfl kX6_append_61 ?_
      refine fM_ok (by rw [K_append, if_pos (b01n.mp h13), if_neg (by omega)]) ?_ ?_
      · rw [ups_at, pk_us, ups_ne _ _ _ (by omega), e8, nI_1]
      · rw [ups_ne _ _ _ (by omega), e8, nI_1, show ups sg0 (mo + 6) n a = upr sg0 (mo + 6) (upd (sg (mo + 6)) n a) by rw [← hs6, ups], e_sg0, ← ups_upr _ _ _ _ (by omega), G_append, ups_comm _ _ _ _ (by decide)]
    · refine V_aload_n hC kX6_append_31 rfl ?_
      refine V_iconst hC (2) kX6_append_32 (by decide) ?_
      refine V_cV_fI hC (ct_fails hWr 2) mkX6_fails lmX6_127 kX6_append_33 (Nat.le_of_ble_eq_true rfl) rfl rfl rfl (Nat.le_of_ble_eq_true rfl) ⟨(Nat.le_of_ble_eq_true rfl), (Nat.le_of_ble_eq_true rfl)⟩ ⟨rfl, rfl⟩ ⟨(Nat.le_of_ble_eq_true rfl), (Nat.le_of_ble_eq_true rfl)⟩ ?_
      refine V_ireti hC rfl kX6_append_36 ?_
      exact fM_no 2 (by rw [K_append, if_pos (b01n.mp h13), if_pos ((nI_eq (by omega) (by decide)).mp ((en.symm.trans (hs8.symm.trans h28)).trans (show (120 : Int32) = nI 120 from rfl)))]) (by decide) (by rw [e_sg0, ups_ups])
  · refine V_aload_n hC kX6_append_16 rfl ?_
    refine V_iconst hC (1) kX6_append_17 (by decide) ?_
    refine V_cV_fI hC (ct_fails hWr 1) mkX6_fails lmX6_127 kX6_append_18 (Nat.le_of_ble_eq_true rfl) rfl rfl rfl (Nat.le_of_ble_eq_true rfl) ⟨(Nat.le_of_ble_eq_true rfl), (Nat.le_of_ble_eq_true rfl)⟩ ⟨rfl, rfl⟩ ⟨(Nat.le_of_ble_eq_true rfl), (Nat.le_of_ble_eq_true rfl)⟩ ?_
    refine V_ireti hC rfl kX6_append_21 ?_
    exact fM_no 1 (by rw [K_append, if_neg (b01e.mp h13)]) (by decide) (by rw [e_sg0, ups_ups])
def mtX6_clearText : Mt := (yX6_clearText, cX6_clearText, 2, (some .int), 0, 0, 0, 0)
theorem kX6_clearText_0 : Dk mtX6_clearText 0 (.aload_n 0) 1 1 := ⟨by decide +kernel, rfl⟩
theorem kX6_clearText_1 : Dk mtX6_clearText 1 (.iconst 0) 1 2 := ⟨by decide +kernel, rfl⟩
theorem kX6_clearText_2 : Dk mtX6_clearText 2 (.putfield 32) 3 5 := ⟨by decide +kernel, rfl⟩
theorem kX6_clearText_5 : Dk mtX6_clearText 5 (.aload_n 0) 1 6 := ⟨by decide +kernel, rfl⟩
theorem kX6_clearText_6 : Dk mtX6_clearText 6 (.getfield 130) 3 9 := ⟨by decide +kernel, rfl⟩
theorem kX6_clearText_9 : Dk mtX6_clearText 9 (.istore_n 1) 1 10 := ⟨by decide +kernel, rfl⟩
theorem kX6_clearText_10 : Dk mtX6_clearText 10 (.aload_n 0) 1 11 := ⟨by decide +kernel, rfl⟩
theorem kX6_clearText_11 : Dk mtX6_clearText 11 (.iconst 0) 1 12 := ⟨by decide +kernel, rfl⟩
theorem kX6_clearText_12 : Dk mtX6_clearText 12 (.putfield 130) 3 15 := ⟨by decide +kernel, rfl⟩
theorem kX6_clearText_15 : Dk mtX6_clearText 15 (.iload_n 1) 1 16 := ⟨by decide +kernel, rfl⟩
theorem kX6_clearText_16 : Dk mtX6_clearText 16 (.ireturn) 1 17 := ⟨by decide +kernel, rfl⟩
set_option maxHeartbeats 4000000 in
set_option maxRecDepth 100000 in
theorem ct_clearText {l : Launch} {w : Wd} {sg : Sg} (hWr : Wr w) {mo : Nat} : M l mtX6_clearText w [vR (some (6, 0, mo))] sg (fM mo sg 0 (sg mo 8) (ups sg mo 8 0)) := by
  refine M_of [some (vR (some (6, 0, mo))), none] rfl (Nat.le_of_ble_eq_true rfl) (by decide +kernel) ?_
  intro p_ e_ s_ m_ args_ below_ meth_ c_ hC hO
  refine V_aload_n hC kX6_clearText_0 rfl ?_
  refine V_iconst hC (0) kX6_clearText_1 (by decide) ?_
  refine V_putI hC 6 0 lfX6_32 kX6_clearText_2 (Nat.le_of_ble_eq_true rfl) (Nat.le_of_ble_eq_true rfl) rfl rfl ⟨rfl, rfl⟩ ?_
  refine V_nameS (fun sg0 e_sg0 => ?_)
  have hs6 : sg0 (mo + 6) = sg (mo + 6) := by rw [e_sg0]; exact upr_ne _ _ (by omega)
  have hs8 : sg0 mo 8 = sg mo 8 := by rw [e_sg0, ups_at]; exact pk_un (by decide)
  refine V_aload_n hC kX6_clearText_5 rfl ?_
  refine V_getI hC 6 8 lfX6_130 kX6_clearText_6 (Nat.le_of_ble_eq_true rfl) (Nat.le_of_ble_eq_true rfl) rfl ?_
  refine V_istore_n hC [some _, some _] kX6_clearText_9 rfl (Nat.le_of_ble_eq_true rfl) ?_
  refine V_aload_n hC kX6_clearText_10 rfl ?_
  refine V_iconst hC (0) kX6_clearText_11 (by decide) ?_
  refine V_putI hC 6 8 lfX6_130 kX6_clearText_12 (Nat.le_of_ble_eq_true rfl) (Nat.le_of_ble_eq_true rfl) rfl rfl ⟨rfl, rfl⟩ ?_
  refine V_iload_n hC kX6_clearText_15 rfl ?_
  refine V_ireti hC rfl kX6_clearText_16 ?_
  refine fM_ok rfl hs8 ?_
  rw [e_sg0, ups_comm _ _ _ _ (by decide)]
