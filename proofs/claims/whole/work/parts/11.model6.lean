-- HOW ct_in fI
-- HOW ct_fails fI
-- HOW ct_of fI
-- HOW ct_ofBoat fI
-- HOW ct_layBoat fV
-- HOW ct_isLight fI
-- HOW ct_isBoat fI
-- HOW ct_isPlace fI
-- HOW ct_bright fI
-- HOW ct_worth fI
-- HOW ct_serves fI
-- HOW ct_best fI
-- HOW ct_sails fV
-- HOW ct_drops fV
-- HOW ct_wished fI
-- HOW ct_hands fV
-- HOW ct_wishes fV
-- HOW ct_finds fV
-- HOW ct_goesOn fV
-- HOW ct_goesTick fV
-- HOW ct_goesBy fI
-- HOW ct_putAside fV
-- HOW ct_takeBack fV
-- HOW ct_isLamp fI
-- HOW ct_addsLight fI
-- HOW ct_actsLight fI
-- HOW ct_addsBoat fI
-- HOW ct_actsBoat fI
-- HOW ct_actsSteer fI
-- HOW ct_canTalk fI
-- HOW ct_actsTalk fI
-- HOW ct_actsLean fI
-- HOW ct_actsDim fI
-- HOW ct_mostOf fI
-- HOW ct_isSetting fI
-- HOW ct_actsSet fI
-- HOW ct_actsTicks fI
-- HOW ct_boatsThat fI
-- HOW ct_servedBy fI
-- HOW ct_begins fV
-- HOW ct_tellsAbout fI
-- HOW ct_about fM
-- HOW ct_lightOf fM
-- HOW ct_boatOf fM
-- HOW ct_brightness fM
-- HOW ct_bestAt fM
-- HOW ct_setting fM
-- HOW ct_saves fV
-- HOW ct_light fM
-- HOW ct_boat fM
-- HOW ct_steer fM
-- HOW ct_talk fM
-- HOW ct_lean fM
-- HOW ct_dim fM
-- HOW ct_set fM
-- HOW ct_ticks fM
-- HOW ct_undo fM
-- HOW ct_save fM
-- HOW ct_restore fM
-- HOW ct_bringsBy fI
-- HOW ct_ifMargin fM
-- HOW ct_held fI
-- HOW ct_room fI
-- HOW ct_dark fI
-- HOW ct_turns fV
-- HOW ct_simulate fM
/-! the reference: forecasts, simulations -/
def mtX6_bringsBy : Mt := (yX6_bringsBy, cX6_bringsBy, 5, (some .int), 8, 186, 0, 0)
theorem kX6_bringsBy_0 : Dk mtX6_bringsBy 0 (.aload_n 0) 1 1 := ⟨by decide +kernel, rfl⟩
theorem kX6_bringsBy_1 : Dk mtX6_bringsBy 1 (.invokevirtual 206) 3 4 := ⟨by decide +kernel, rfl⟩
theorem kX6_bringsBy_4 : Dk mtX6_bringsBy 4 (.aload_n 0) 1 5 := ⟨by decide +kernel, rfl⟩
theorem kX6_bringsBy_5 : Dk mtX6_bringsBy 5 (.getfield 7) 3 8 := ⟨by decide +kernel, rfl⟩
theorem kX6_bringsBy_8 : Dk mtX6_bringsBy 8 (.iconst 0) 1 9 := ⟨by decide +kernel, rfl⟩
theorem kX6_bringsBy_9 : Dk mtX6_bringsBy 9 (.iload_n 1) 1 10 := ⟨by decide +kernel, rfl⟩
theorem kX6_bringsBy_10 : Dk mtX6_bringsBy 10 (.iastore) 1 11 := ⟨by decide +kernel, rfl⟩
theorem kX6_bringsBy_11 : Dk mtX6_bringsBy 11 (.aload_n 0) 1 12 := ⟨by decide +kernel, rfl⟩
theorem kX6_bringsBy_12 : Dk mtX6_bringsBy 12 (.iload_n 2) 1 13 := ⟨by decide +kernel, rfl⟩
theorem kX6_bringsBy_13 : Dk mtX6_bringsBy 13 (.iload_n 3) 1 14 := ⟨by decide +kernel, rfl⟩
theorem kX6_bringsBy_14 : Dk mtX6_bringsBy 14 (.invokevirtual 124) 3 17 := ⟨by decide +kernel, rfl⟩
theorem kX6_bringsBy_17 : Dk mtX6_bringsBy 17 (.istore 4) 2 19 := ⟨by decide +kernel, rfl⟩
theorem kX6_bringsBy_19 : Dk mtX6_bringsBy 19 (.aload_n 0) 1 20 := ⟨by decide +kernel, rfl⟩
theorem kX6_bringsBy_20 : Dk mtX6_bringsBy 20 (.invokevirtual 209) 3 23 := ⟨by decide +kernel, rfl⟩
theorem kX6_bringsBy_23 : Dk mtX6_bringsBy 23 (.iload 4) 2 25 := ⟨by decide +kernel, rfl⟩
theorem kX6_bringsBy_25 : Dk mtX6_bringsBy 25 (.ireturn) 1 26 := ⟨by decide +kernel, rfl⟩
theorem lmX6_206 : LkM RX6 206 mtX6_putAside := Or.inl (by decide +kernel)
theorem mkX6_putAside : MkV mtX6_putAside 0 := ⟨List.mem_of_getElem? (i := 1329) (by decide +kernel), by decide +kernel, by decide +kernel, by decide +kernel, ⟨by decide +kernel, by decide +kernel, by decide +kernel⟩⟩
theorem lmX6_209 : LkM RX6 209 mtX6_takeBack := Or.inl (by decide +kernel)
theorem mkX6_takeBack : MkV mtX6_takeBack 0 := ⟨List.mem_of_getElem? (i := 1333) (by decide +kernel), by decide +kernel, by decide +kernel, by decide +kernel, ⟨by decide +kernel, by decide +kernel, by decide +kernel⟩⟩
set_option maxHeartbeats 4000000 in
set_option maxRecDepth 100000 in
theorem ct_bringsBy {l : Launch} {w : Wd} {sg : Sg} (hWr : Wr w) {mo N j : Nat} (v : Int32) (hv : inn v 0 100) (hN : N < 2 ^ 31) (hj : j < 140) (hI : Inv (sg (mo + 1))) : M l mtX6_bringsBy w [vR (some (6, 0, mo)), vI v, vI (nI N), vI (nI j)] sg (fI (R_brings (sg (mo + 1)) v N j) (G_aside sg mo)) := by
  refine M_of [some (vR (some (6, 0, mo))), some (vI v), some (vI (nI N)), some (vI (nI j)), none] rfl (Nat.le_of_ble_eq_true rfl) (by decide +kernel) ?_
  intro p_ e_ s_ m_ args_ below_ meth_ c_ hC hO
  refine V_aload_n hC kX6_bringsBy_0 rfl ?_
  refine V_cV_fV hC (ct_putAside hWr) mkX6_putAside lmX6_206 kX6_bringsBy_1 (Nat.le_of_ble_eq_true rfl) rfl rfl rfl (Nat.le_of_ble_eq_true rfl) ⟨(Nat.le_of_ble_eq_true rfl), (Nat.le_of_ble_eq_true rfl)⟩ ⟨rfl, rfl⟩ ⟨(Nat.le_of_ble_eq_true rfl), (Nat.le_of_ble_eq_true rfl)⟩ ?_
  refine V_aload_n hC kX6_bringsBy_4 rfl ?_
  refine V_getR hC hWr 6 1 lfX6_7 kX6_bringsBy_5 (Nat.le_of_ble_eq_true rfl) (Nat.le_of_ble_eq_true rfl) rfl ?_
  refine V_iconst hC (0) kX6_bringsBy_8 (by decide) ?_
  refine V_iload_n hC kX6_bringsBy_9 rfl ?_
  refine V_iast hC 0 rfl kX6_bringsBy_10 (vp_lit rfl) ?_
  have hI1 := Inv_margin hI hv
  refine V_canon (upr (G_aside sg mo) (mo + 1) (upd (sg (mo + 1)) 0 v)) (by unfold ups G_aside; rw [upr_ne sg _ (show mo + 1 ≠ mo + 2 by omega)]) ?_
  refine V_aload_n hC kX6_bringsBy_11 rfl ?_
  refine V_iload_n hC kX6_bringsBy_12 rfl ?_
  refine V_iload_n hC kX6_bringsBy_13 rfl ?_
  refine V_cV_fI hC (ct_goesBy (N := N) (j := j) hWr (by rw [upr_at]; exact hI1) hN hj) mkX6_goesBy lmX6_124 kX6_bringsBy_14 (Nat.le_of_ble_eq_true rfl) rfl rfl rfl (Nat.le_of_ble_eq_true rfl) ⟨(Nat.le_of_ble_eq_true rfl), (Nat.le_of_ble_eq_true rfl)⟩ ⟨rfl, rfl⟩ ⟨(Nat.le_of_ble_eq_true rfl), (Nat.le_of_ble_eq_true rfl)⟩ ?_
  refine V_nameI (fun its e_its => ?_)
  refine V_istore hC [some _, some _, some _, some _, some _] kX6_bringsBy_17 rfl (Nat.le_of_ble_eq_true rfl) ?_
  refine V_aload_n hC kX6_bringsBy_19 rfl ?_
  refine V_cV_fV hC (ct_takeBack hWr) mkX6_takeBack lmX6_209 kX6_bringsBy_20 (Nat.le_of_ble_eq_true rfl) rfl rfl rfl (Nat.le_of_ble_eq_true rfl) ⟨(Nat.le_of_ble_eq_true rfl), (Nat.le_of_ble_eq_true rfl)⟩ ⟨rfl, rfl⟩ ⟨(Nat.le_of_ble_eq_true rfl), (Nat.le_of_ble_eq_true rfl)⟩ ?_
  refine V_iload hC kX6_bringsBy_23 rfl ?_
  refine V_ireti hC rfl kX6_bringsBy_25 ?_
  refine ⟨cI (by rw [e_its, upr_at]; rfl), ?_⟩
  simp only [upr_at, upr_upr]
  have hb : cpy (G_aside sg mo (mo + 2)) (F_ticks (upd (sg (mo + 1)) 0 v) N) 140 = sg (mo + 1) := by
    unfold G_aside
    rw [upr_at]
    exact back_eq (fun z hz => ((Inv_ticks hI1 N).2 z (lo140 hz)).trans (pk_un (by omega)))
  have h2 : upr (G_aside sg mo) (mo + 1) (F_ticks (upd (sg (mo + 1)) 0 v) N) (mo + 2) = G_aside sg mo (mo + 2) := upr_ne _ _ (by omega)
  rw [h2, hb, ← aside_1 sg mo, upr_self]
def mtX6_ifMargin : Mt := (yX6_ifMargin, cX6_ifMargin, 5, (some .int), 9, 210, 0, 0)
theorem kX6_ifMargin_0 : Dk mtX6_ifMargin 0 (.aload_n 0) 1 1 := ⟨by decide +kernel, rfl⟩
theorem kX6_ifMargin_1 : Dk mtX6_ifMargin 1 (.iconst 0) 1 2 := ⟨by decide +kernel, rfl⟩
theorem kX6_ifMargin_2 : Dk mtX6_ifMargin 2 (.putfield 32) 3 5 := ⟨by decide +kernel, rfl⟩
theorem kX6_ifMargin_5 : Dk mtX6_ifMargin 5 (.iload_n 1) 1 6 := ⟨by decide +kernel, rfl⟩
theorem kX6_ifMargin_6 : Dk mtX6_ifMargin 6 (.iconst 0) 1 7 := ⟨by decide +kernel, rfl⟩
theorem kX6_ifMargin_7 : Dk mtX6_ifMargin 7 (.bipush 100) 2 9 := ⟨by decide +kernel, rfl⟩
theorem kX6_ifMargin_9 : Dk mtX6_ifMargin 9 (.invokestatic 39) 3 12 := ⟨by decide +kernel, rfl⟩
theorem kX6_ifMargin_12 : Dk mtX6_ifMargin 12 (.ifCond .eq 27) 3 15 := ⟨by decide +kernel, rfl⟩
theorem kX6_ifMargin_15 : Dk mtX6_ifMargin 15 (.iload_n 2) 1 16 := ⟨by decide +kernel, rfl⟩
theorem kX6_ifMargin_16 : Dk mtX6_ifMargin 16 (.iconst 1) 1 17 := ⟨by decide +kernel, rfl⟩
theorem kX6_ifMargin_17 : Dk mtX6_ifMargin 17 (.sipush 200) 3 20 := ⟨by decide +kernel, rfl⟩
theorem kX6_ifMargin_20 : Dk mtX6_ifMargin 20 (.invokestatic 39) 3 23 := ⟨by decide +kernel, rfl⟩
theorem kX6_ifMargin_23 : Dk mtX6_ifMargin 23 (.ifCond .eq 16) 3 26 := ⟨by decide +kernel, rfl⟩
theorem kX6_ifMargin_26 : Dk mtX6_ifMargin 26 (.iload_n 3) 1 27 := ⟨by decide +kernel, rfl⟩
theorem kX6_ifMargin_27 : Dk mtX6_ifMargin 27 (.iconst 0) 1 28 := ⟨by decide +kernel, rfl⟩
theorem kX6_ifMargin_28 : Dk mtX6_ifMargin 28 (.iconst 3) 1 29 := ⟨by decide +kernel, rfl⟩
theorem kX6_ifMargin_29 : Dk mtX6_ifMargin 29 (.invokestatic 39) 3 32 := ⟨by decide +kernel, rfl⟩
theorem kX6_ifMargin_32 : Dk mtX6_ifMargin 32 (.ifCond .eq 7) 3 35 := ⟨by decide +kernel, rfl⟩
theorem kX6_ifMargin_35 : Dk mtX6_ifMargin 35 (.iconst 1) 1 36 := ⟨by decide +kernel, rfl⟩
theorem kX6_ifMargin_36 : Dk mtX6_ifMargin 36 (.goto 4) 3 39 := ⟨by decide +kernel, rfl⟩
theorem kX6_ifMargin_39 : Dk mtX6_ifMargin 39 (.iconst 0) 1 40 := ⟨by decide +kernel, rfl⟩
theorem kX6_ifMargin_40 : Dk mtX6_ifMargin 40 (.istore 4) 2 42 := ⟨by decide +kernel, rfl⟩
theorem kX6_ifMargin_42 : Dk mtX6_ifMargin 42 (.iload 4) 2 44 := ⟨by decide +kernel, rfl⟩
theorem kX6_ifMargin_44 : Dk mtX6_ifMargin 44 (.ifCond .eq 16) 3 47 := ⟨by decide +kernel, rfl⟩
theorem kX6_ifMargin_47 : Dk mtX6_ifMargin 47 (.aload_n 0) 1 48 := ⟨by decide +kernel, rfl⟩
theorem kX6_ifMargin_48 : Dk mtX6_ifMargin 48 (.iload_n 1) 1 49 := ⟨by decide +kernel, rfl⟩
theorem kX6_ifMargin_49 : Dk mtX6_ifMargin 49 (.iload_n 2) 1 50 := ⟨by decide +kernel, rfl⟩
theorem kX6_ifMargin_50 : Dk mtX6_ifMargin 50 (.bipush 7) 2 52 := ⟨by decide +kernel, rfl⟩
theorem kX6_ifMargin_52 : Dk mtX6_ifMargin 52 (.iload_n 3) 1 53 := ⟨by decide +kernel, rfl⟩
theorem kX6_ifMargin_53 : Dk mtX6_ifMargin 53 (.iadd) 1 54 := ⟨by decide +kernel, rfl⟩
theorem kX6_ifMargin_54 : Dk mtX6_ifMargin 54 (.invokevirtual 212) 3 57 := ⟨by decide +kernel, rfl⟩
theorem kX6_ifMargin_57 : Dk mtX6_ifMargin 57 (.goto 8) 3 60 := ⟨by decide +kernel, rfl⟩
theorem kX6_ifMargin_60 : Dk mtX6_ifMargin 60 (.aload_n 0) 1 61 := ⟨by decide +kernel, rfl⟩
theorem kX6_ifMargin_61 : Dk mtX6_ifMargin 61 (.iconst 1) 1 62 := ⟨by decide +kernel, rfl⟩
theorem kX6_ifMargin_62 : Dk mtX6_ifMargin 62 (.invokevirtual 127) 3 65 := ⟨by decide +kernel, rfl⟩
theorem kX6_ifMargin_65 : Dk mtX6_ifMargin 65 (.ireturn) 1 66 := ⟨by decide +kernel, rfl⟩
theorem lmX6_212 : LkM RX6 212 mtX6_bringsBy := Or.inl (by decide +kernel)
theorem mkX6_bringsBy : MkV mtX6_bringsBy 3 := ⟨List.mem_of_getElem? (i := 1341) (by decide +kernel), by decide +kernel, by decide +kernel, by decide +kernel, ⟨by decide +kernel, by decide +kernel, by decide +kernel⟩⟩
set_option maxHeartbeats 4000000 in
set_option maxRecDepth 100000 in
theorem ct_ifMargin {l : Launch} {w : Wd} {sg : Sg} (hWr : Wr w) {mo : Nat} (v n a : Int32) (hI : Inv (sg (mo + 1))) : M l mtX6_ifMargin w [vR (some (6, 0, mo)), vI v, vI n, vI a] sg (fM mo sg (K_ifMargin v n a) (R_brings (sg (mo + 1)) v (tn n) (7 + tn a)) (G_aside sg mo)) := by
  refine M_of [some (vR (some (6, 0, mo))), some (vI v), some (vI n), some (vI a), none] rfl (Nat.le_of_ble_eq_true rfl) (by decide +kernel) ?_
  intro p_ e_ s_ m_ args_ below_ meth_ c_ hC hO
  refine V_aload_n hC kX6_ifMargin_0 rfl ?_
  refine V_iconst hC (0) kX6_ifMargin_1 (by decide) ?_
  refine V_putI hC 6 0 lfX6_32 kX6_ifMargin_2 (Nat.le_of_ble_eq_true rfl) (Nat.le_of_ble_eq_true rfl) rfl rfl ⟨rfl, rfl⟩ ?_
  refine V_nameS (fun sg0 e_sg0 => ?_)
  have hs1 : sg0 (mo + 1) = sg (mo + 1) := by rw [e_sg0]; exact upr_ne _ _ (by omega)
  have hs2 : sg0 (mo + 2) = sg (mo + 2) := by rw [e_sg0]; exact upr_ne _ _ (by omega)
  refine V_join 40 (b01 (inn v 0 100 ∧ inn n 1 200 ∧ inn a 0 3)) ?_ (fun j40 => ?_)
  · refine V_nameI (fun can e_can => ?_)
    refine V_istore hC [some _, some _, some _, some _, some _] kX6_ifMargin_40 rfl (Nat.le_of_ble_eq_true rfl) ?_
    refine V_iload hC kX6_ifMargin_42 rfl ?_
    refine V_if_eq hC 60 kX6_ifMargin_44 (by decide) (fun h44 => ?_) (fun h44 => ?_)
    · refine V_aload_n hC kX6_ifMargin_60 rfl ?_
      refine V_iconst hC (1) kX6_ifMargin_61 (by decide) ?_
      refine V_cV_fI hC (ct_fails hWr 1) mkX6_fails lmX6_127 kX6_ifMargin_62 (Nat.le_of_ble_eq_true rfl) rfl rfl rfl (Nat.le_of_ble_eq_true rfl) ⟨(Nat.le_of_ble_eq_true rfl), (Nat.le_of_ble_eq_true rfl)⟩ ⟨rfl, rfl⟩ ⟨(Nat.le_of_ble_eq_true rfl), (Nat.le_of_ble_eq_true rfl)⟩ ?_
      refine V_ireti hC rfl kX6_ifMargin_65 ?_
      first
        | exact fM_no 1 (by rw [K_ifMargin, if_neg (b0_of e_can h44)]) (by decide) (by rw [e_sg0, ups_ups])
        | exact fM_ok (by rw [K_ifMargin, ← en, if_pos hp]) (by rw [hs1, ← en, etn, eta]) (by unfold G_aside; rw [hs1, hs2, e_sg0, ups_upr _ _ _ _ (by omega)])
    · have hp := b1_of e_can h44
      obtain ⟨N, hN, -, en, etn⟩ := tn60 (m := 200) rfl hp.2.1
      obtain ⟨A, hA, ea⟩ : ∃ A, A < 4 ∧ a = nI A := vp_in_of (inn_vp (by decide) hp.2.2) (by decide)
      have eta : tn a = A := by rw [ea]; exact nI_clamp (by omega)
      have e7 : (7 : Int32) + a = nI (7 + A) := by rw [ea]; exact nI_add 7 A
      refine V_aload_n hC kX6_ifMargin_47 rfl ?_
      refine V_iload_n hC kX6_ifMargin_48 rfl ?_
      refine V_iload_n hC kX6_ifMargin_49 rfl ?_
      refine V_bipush hC (7) kX6_ifMargin_50 (by decide) ?_
      refine V_iload_n hC kX6_ifMargin_52 rfl ?_
      refine V_iadd hC kX6_ifMargin_53 ?_
      rw [en, e7]
      refine V_cV_fI hC (ct_bringsBy (N := N) (j := 7 + A) hWr v hp.1 (by omega) (by omega) (by rw [hs1]; exact hI)) mkX6_bringsBy lmX6_212 kX6_ifMargin_54 (Nat.le_of_ble_eq_true rfl) rfl rfl rfl (Nat.le_of_ble_eq_true rfl) ⟨(Nat.le_of_ble_eq_true rfl), (Nat.le_of_ble_eq_true rfl)⟩ ⟨rfl, rfl⟩ ⟨(Nat.le_of_ble_eq_true rfl), (Nat.le_of_ble_eq_true rfl)⟩ ?_
      refine V_goto hC 65 kX6_ifMargin_57 (by decide) ?_
      refine V_ireti hC rfl kX6_ifMargin_65 ?_
      first
        | exact fM_no 1 (by rw [K_ifMargin, if_neg (b0_of e_can h44)]) (by decide) (by rw [e_sg0, ups_ups])
        | exact fM_ok (by rw [K_ifMargin, ← en, if_pos hp]) (by rw [hs1, ← en, etn, eta]) (by unfold G_aside; rw [hs1, hs2, e_sg0, ups_upr _ _ _ _ (by omega)])
  · refine V_iload_n hC kX6_ifMargin_5 rfl ?_
    refine V_iconst hC (0) kX6_ifMargin_6 (by decide) ?_
    refine V_bipush hC (100) kX6_ifMargin_7 (by decide) ?_
    refine V_cS_fI hC (ct_in hWr _ _ _) mkX6_in lmX6_39 kX6_ifMargin_9 rfl rfl (Nat.le_of_ble_eq_true rfl) ⟨(Nat.le_of_ble_eq_true rfl), (Nat.le_of_ble_eq_true rfl)⟩ ⟨rfl, rfl⟩ ⟨(Nat.le_of_ble_eq_true rfl), (Nat.le_of_ble_eq_true rfl)⟩ ?_
    refine V_if_eq hC 39 kX6_ifMargin_12 (by decide) (fun h12 => ?_) (fun h12 => ?_)
    · refine V_iconst hC (0) kX6_ifMargin_39 (by decide) ?_
      exact j40 _ ((b01_f (fun z => (b01e.mp h12) z.1)).symm)
    · refine V_iload_n hC kX6_ifMargin_15 rfl ?_
      refine V_iconst hC (1) kX6_ifMargin_16 (by decide) ?_
      refine V_sipush hC (200) kX6_ifMargin_17 (by decide) ?_
      refine V_cS_fI hC (ct_in hWr _ _ _) mkX6_in lmX6_39 kX6_ifMargin_20 rfl rfl (Nat.le_of_ble_eq_true rfl) ⟨(Nat.le_of_ble_eq_true rfl), (Nat.le_of_ble_eq_true rfl)⟩ ⟨rfl, rfl⟩ ⟨(Nat.le_of_ble_eq_true rfl), (Nat.le_of_ble_eq_true rfl)⟩ ?_
      refine V_if_eq hC 39 kX6_ifMargin_23 (by decide) (fun h23 => ?_) (fun h23 => ?_)
      · refine V_iconst hC (0) kX6_ifMargin_39 (by decide) ?_
        exact j40 _ ((b01_f (fun z => (b01e.mp h23) z.2.1)).symm)
      · refine V_iload_n hC kX6_ifMargin_26 rfl ?_
        refine V_iconst hC (0) kX6_ifMargin_27 (by decide) ?_
        refine V_iconst hC (3) kX6_ifMargin_28 (by decide) ?_
        refine V_cS_fI hC (ct_in hWr _ _ _) mkX6_in lmX6_39 kX6_ifMargin_29 rfl rfl (Nat.le_of_ble_eq_true rfl) ⟨(Nat.le_of_ble_eq_true rfl), (Nat.le_of_ble_eq_true rfl)⟩ ⟨rfl, rfl⟩ ⟨(Nat.le_of_ble_eq_true rfl), (Nat.le_of_ble_eq_true rfl)⟩ ?_
        refine V_if_eq hC 39 kX6_ifMargin_32 (by decide) (fun h32 => ?_) (fun h32 => ?_)
        · refine V_iconst hC (0) kX6_ifMargin_39 (by decide) ?_
          exact j40 _ ((b01_f (fun z => (b01e.mp h32) z.2.2)).symm)
        · refine V_iconst hC (1) kX6_ifMargin_35 (by decide) ?_
          refine V_goto hC 40 kX6_ifMargin_36 (by decide) ?_
          exact j40 _ ((b01_t ⟨b01n.mp h12, b01n.mp h23, b01n.mp h32⟩).symm)
def mtX6_held : Mt := (yX6_held, cX6_held, 1, (some .int), 0, 0, 0, 0)
theorem kX6_held_0 : Dk mtX6_held 0 (.iload_n 0) 1 1 := ⟨by decide +kernel, rfl⟩
theorem kX6_held_1 : Dk mtX6_held 1 (.bipush 99) 2 3 := ⟨by decide +kernel, rfl⟩
theorem kX6_held_3 : Dk mtX6_held 3 (.if_icmp .le 8) 3 6 := ⟨by decide +kernel, rfl⟩
theorem kX6_held_6 : Dk mtX6_held 6 (.bipush 99) 2 8 := ⟨by decide +kernel, rfl⟩
theorem kX6_held_8 : Dk mtX6_held 8 (.goto 4) 3 11 := ⟨by decide +kernel, rfl⟩
theorem kX6_held_11 : Dk mtX6_held 11 (.iload_n 0) 1 12 := ⟨by decide +kernel, rfl⟩
theorem kX6_held_12 : Dk mtX6_held 12 (.ireturn) 1 13 := ⟨by decide +kernel, rfl⟩
set_option maxHeartbeats 4000000 in
set_option maxRecDepth 100000 in
theorem ct_held {l : Launch} {w : Wd} {sg : Sg} (hWr : Wr w) (a : Int32) : M l mtX6_held w [vI a] sg (fI (F_held a) sg) := by
  refine M_of [some (vI a)] rfl (Nat.le_of_ble_eq_true rfl) (by decide +kernel) ?_
  intro p_ e_ s_ m_ args_ below_ meth_ c_ hC hO
  refine V_iload_n hC kX6_held_0 rfl ?_
  refine V_bipush hC (99) kX6_held_1 (by decide) ?_
  refine V_icmp_le hC 11 kX6_held_3 (by decide) (fun h3 => ?_) (fun h3 => ?_)
  · refine V_iload_n hC kX6_held_11 rfl ?_
    refine V_ireti hC rfl kX6_held_12 ?_
    refine ⟨cI ?_, by with_reducible rfl⟩
    first
      | (rw [F_held, if_neg (Int32.not_lt.mpr h3)]; done)
      | (rw [F_held, if_pos (Int32.not_le.mp h3)]; done)
  · refine V_bipush hC (99) kX6_held_6 (by decide) ?_
    refine V_goto hC 12 kX6_held_8 (by decide) ?_
    refine V_ireti hC rfl kX6_held_12 ?_
    refine ⟨cI ?_, by with_reducible rfl⟩
    first
      | (rw [F_held, if_neg (Int32.not_lt.mpr h3)]; done)
      | (rw [F_held, if_pos (Int32.not_le.mp h3)]; done)
def mtX6_room : Mt := (yX6_room, cX6_room, 3, (some .int), 2, 45, 0, 0)
theorem kX6_room_0 : Dk mtX6_room 0 (.aload_n 0) 1 1 := ⟨by decide +kernel, rfl⟩
theorem kX6_room_1 : Dk mtX6_room 1 (.iconst 0) 1 2 := ⟨by decide +kernel, rfl⟩
theorem kX6_room_2 : Dk mtX6_room 2 (.putfield 32) 3 5 := ⟨by decide +kernel, rfl⟩
theorem kX6_room_5 : Dk mtX6_room 5 (.iconst 0) 1 6 := ⟨by decide +kernel, rfl⟩
theorem kX6_room_6 : Dk mtX6_room 6 (.istore_n 1) 1 7 := ⟨by decide +kernel, rfl⟩
theorem kX6_room_7 : Dk mtX6_room 7 (.iconst 0) 1 8 := ⟨by decide +kernel, rfl⟩
theorem kX6_room_8 : Dk mtX6_room 8 (.istore_n 2) 1 9 := ⟨by decide +kernel, rfl⟩
theorem kX6_room_9 : Dk mtX6_room 9 (.iload_n 2) 1 10 := ⟨by decide +kernel, rfl⟩
theorem kX6_room_10 : Dk mtX6_room 10 (.aload_n 0) 1 11 := ⟨by decide +kernel, rfl⟩
theorem kX6_room_11 : Dk mtX6_room 11 (.getfield 7) 3 14 := ⟨by decide +kernel, rfl⟩
theorem kX6_room_14 : Dk mtX6_room 14 (.iconst 4) 1 15 := ⟨by decide +kernel, rfl⟩
theorem kX6_room_15 : Dk mtX6_room 15 (.iaload) 1 16 := ⟨by decide +kernel, rfl⟩
theorem kX6_room_16 : Dk mtX6_room 16 (.if_icmp .ge 24) 3 19 := ⟨by decide +kernel, rfl⟩
theorem kX6_room_19 : Dk mtX6_room 19 (.iload_n 1) 1 20 := ⟨by decide +kernel, rfl⟩
theorem kX6_room_20 : Dk mtX6_room 20 (.aload_n 0) 1 21 := ⟨by decide +kernel, rfl⟩
theorem kX6_room_21 : Dk mtX6_room 21 (.iload_n 2) 1 22 := ⟨by decide +kernel, rfl⟩
theorem kX6_room_22 : Dk mtX6_room 22 (.iconst 4) 1 23 := ⟨by decide +kernel, rfl⟩
theorem kX6_room_23 : Dk mtX6_room 23 (.invokevirtual 46) 3 26 := ⟨by decide +kernel, rfl⟩
theorem kX6_room_26 : Dk mtX6_room 26 (.aload_n 0) 1 27 := ⟨by decide +kernel, rfl⟩
theorem kX6_room_27 : Dk mtX6_room 27 (.iload_n 2) 1 28 := ⟨by decide +kernel, rfl⟩
theorem kX6_room_28 : Dk mtX6_room 28 (.invokevirtual 71) 3 31 := ⟨by decide +kernel, rfl⟩
theorem kX6_room_31 : Dk mtX6_room 31 (.isub) 1 32 := ⟨by decide +kernel, rfl⟩
theorem kX6_room_32 : Dk mtX6_room 32 (.iadd) 1 33 := ⟨by decide +kernel, rfl⟩
theorem kX6_room_33 : Dk mtX6_room 33 (.istore_n 1) 1 34 := ⟨by decide +kernel, rfl⟩
theorem kX6_room_34 : Dk mtX6_room 34 (.iinc 2 1) 3 37 := ⟨by decide +kernel, rfl⟩
theorem kX6_room_37 : Dk mtX6_room 37 (.goto (-28)) 3 40 := ⟨by decide +kernel, rfl⟩
theorem kX6_room_40 : Dk mtX6_room 40 (.iload_n 1) 1 41 := ⟨by decide +kernel, rfl⟩
theorem kX6_room_41 : Dk mtX6_room 41 (.ireturn) 1 42 := ⟨by decide +kernel, rfl⟩
set_option maxHeartbeats 4000000 in
set_option maxRecDepth 100000 in
theorem ct_room {l : Launch} {w : Wd} {sg : Sg} (hWr : Wr w) {mo : Nat} (hI : Inv (sg (mo + 1))) : M l mtX6_room w [vR (some (6, 0, mo))] sg (fI (F_room (sg (mo + 1)) (tn ((sg (mo + 1)) 4))) (ups sg mo 0 0)) := by
  refine M_of [some (vR (some (6, 0, mo))), none, none] rfl (Nat.le_of_ble_eq_true rfl) (by decide +kernel) ?_
  intro p_ e_ s_ m_ args_ below_ meth_ c_ hC hO
  refine V_aload_n hC kX6_room_0 rfl ?_
  refine V_iconst hC (0) kX6_room_1 (by decide) ?_
  refine V_putI hC 6 0 lfX6_32 kX6_room_2 (Nat.le_of_ble_eq_true rfl) (Nat.le_of_ble_eq_true rfl) rfl rfl ⟨rfl, rfl⟩ ?_
  refine V_nameS (fun sg0 e_sg0 => ?_)
  have hs1 : sg0 (mo + 1) = sg (mo + 1) := by rw [e_sg0]; exact upr_ne _ _ (by omega)
  have hs2 : sg0 (mo + 2) = sg (mo + 2) := by rw [e_sg0]; exact upr_ne _ _ (by omega)
  refine V_iconst hC (0) kX6_room_5 (by decide) ?_
  refine V_istore_n hC [some _, some _, none] kX6_room_6 rfl (Nat.le_of_ble_eq_true rfl) ?_
  refine V_iconst hC (0) kX6_room_7 (by decide) ?_
  refine V_istore_n hC [some _, some _, some _] kX6_room_8 rfl (Nat.le_of_ble_eq_true rfl) ?_
  refine V_loop (tn ((sg (mo + 1)) 4)) (fun i => [some (vR (some (6, 0, mo))), some (vI (F_room (sg (mo + 1)) i)), some (vI (nI i))]) (fun i => sg0) rfl rfl ?_ (fun i hi ihi => ?_)
  · refine V_iload_n hC kX6_room_9 rfl ?_
    refine V_aload_n hC kX6_room_10 rfl ?_
    refine V_getR hC hWr 6 1 lfX6_7 kX6_room_11 (Nat.le_of_ble_eq_true rfl) (Nat.le_of_ble_eq_true rfl) rfl ?_
    refine V_iconst hC (4) kX6_room_14 (by decide) ?_
    refine V_iald hC 4 rfl kX6_room_15 (vp_lit rfl) ?_
    refine V_icmp_ge hC 40 kX6_room_16 (by decide) (fun h16 => ?_) (fun h16 => absurd h16 (not_not_intro (by rw [hs1]; exact cnt_le hI.hc4.1)))
    refine V_iload_n hC kX6_room_40 rfl ?_
    refine V_ireti hC rfl kX6_room_41 ?_
    exact ⟨by with_reducible rfl, e_sg0⟩
  · have hi6 := hI.c4.1
    refine V_iload_n hC kX6_room_9 rfl ?_
    refine V_aload_n hC kX6_room_10 rfl ?_
    refine V_getR hC hWr 6 1 lfX6_7 kX6_room_11 (Nat.le_of_ble_eq_true rfl) (Nat.le_of_ble_eq_true rfl) rfl ?_
    refine V_iconst hC (4) kX6_room_14 (by decide) ?_
    refine V_iald hC 4 rfl kX6_room_15 (vp_lit rfl) ?_
    refine V_icmp_ge hC 40 kX6_room_16 (by decide) (fun h16 => absurd h16 (by rw [hs1]; exact cnt_lt hI.hc4.1 hi)) (fun h16 => ?_)
    refine V_iload_n hC kX6_room_19 rfl ?_
    refine V_aload_n hC kX6_room_20 rfl ?_
    refine V_iload_n hC kX6_room_21 rfl ?_
    refine V_iconst hC (4) kX6_room_22 (by decide) ?_
    refine V_cV_fI hC (ct_of hWr (nI i) 4 (vp_in_nI (by omega) (by decide)) (vp_lit rfl)) mkX6_of lmX6_46 kX6_room_23 (Nat.le_of_ble_eq_true rfl) rfl rfl rfl (Nat.le_of_ble_eq_true rfl) ⟨(Nat.le_of_ble_eq_true rfl), (Nat.le_of_ble_eq_true rfl)⟩ ⟨rfl, rfl⟩ ⟨(Nat.le_of_ble_eq_true rfl), (Nat.le_of_ble_eq_true rfl)⟩ ?_
    refine V_aload_n hC kX6_room_26 rfl ?_
    refine V_iload_n hC kX6_room_27 rfl ?_
    refine V_cV_fI hC (ct_serves hWr (nI i) (by rw [hs1]; exact hI.hc5)) mkX6_serves lmX6_71 kX6_room_28 (Nat.le_of_ble_eq_true rfl) rfl rfl rfl (Nat.le_of_ble_eq_true rfl) ⟨(Nat.le_of_ble_eq_true rfl), (Nat.le_of_ble_eq_true rfl)⟩ ⟨rfl, rfl⟩ ⟨(Nat.le_of_ble_eq_true rfl), (Nat.le_of_ble_eq_true rfl)⟩ ?_
    refine V_isub hC kX6_room_31 ?_
    refine V_iadd hC kX6_room_32 ?_
    refine V_istore_n hC [some _, some _, some _] kX6_room_33 rfl (Nat.le_of_ble_eq_true rfl) ?_
    refine V_iinc hC (_ + 1) [some _, some _, some _] kX6_room_34 rfl rfl rfl (Nat.le_of_ble_eq_true rfl) ?_
    refine V_goto hC 9 kX6_room_37 (by decide) ?_
    refine V_eq ?_ rfl ihi
    simp only [F_room, nI_succ, hs1]
def mtX6_dark : Mt := (yX6_dark, cX6_dark, 5, (some .int), 2, 48, 0, 0)
theorem kX6_dark_0 : Dk mtX6_dark 0 (.aload_n 0) 1 1 := ⟨by decide +kernel, rfl⟩
theorem kX6_dark_1 : Dk mtX6_dark 1 (.iconst 0) 1 2 := ⟨by decide +kernel, rfl⟩
theorem kX6_dark_2 : Dk mtX6_dark 2 (.putfield 32) 3 5 := ⟨by decide +kernel, rfl⟩
theorem kX6_dark_5 : Dk mtX6_dark 5 (.iconst 0) 1 6 := ⟨by decide +kernel, rfl⟩
theorem kX6_dark_6 : Dk mtX6_dark 6 (.istore_n 1) 1 7 := ⟨by decide +kernel, rfl⟩
theorem kX6_dark_7 : Dk mtX6_dark 7 (.iconst 0) 1 8 := ⟨by decide +kernel, rfl⟩
theorem kX6_dark_8 : Dk mtX6_dark 8 (.istore_n 2) 1 9 := ⟨by decide +kernel, rfl⟩
theorem kX6_dark_9 : Dk mtX6_dark 9 (.iload_n 2) 1 10 := ⟨by decide +kernel, rfl⟩
theorem kX6_dark_10 : Dk mtX6_dark 10 (.sipush 200) 3 13 := ⟨by decide +kernel, rfl⟩
theorem kX6_dark_13 : Dk mtX6_dark 13 (.if_icmp .ge 69) 3 16 := ⟨by decide +kernel, rfl⟩
theorem kX6_dark_16 : Dk mtX6_dark 16 (.iconst 0) 1 17 := ⟨by decide +kernel, rfl⟩
theorem kX6_dark_17 : Dk mtX6_dark 17 (.istore_n 3) 1 18 := ⟨by decide +kernel, rfl⟩
theorem kX6_dark_18 : Dk mtX6_dark 18 (.iconst 0) 1 19 := ⟨by decide +kernel, rfl⟩
theorem kX6_dark_19 : Dk mtX6_dark 19 (.istore 4) 2 21 := ⟨by decide +kernel, rfl⟩
theorem kX6_dark_21 : Dk mtX6_dark 21 (.iload 4) 2 23 := ⟨by decide +kernel, rfl⟩
theorem kX6_dark_23 : Dk mtX6_dark 23 (.aload_n 0) 1 24 := ⟨by decide +kernel, rfl⟩
theorem kX6_dark_24 : Dk mtX6_dark 24 (.getfield 7) 3 27 := ⟨by decide +kernel, rfl⟩
theorem kX6_dark_27 : Dk mtX6_dark 27 (.iconst 4) 1 28 := ⟨by decide +kernel, rfl⟩
theorem kX6_dark_28 : Dk mtX6_dark 28 (.iaload) 1 29 := ⟨by decide +kernel, rfl⟩
theorem kX6_dark_29 : Dk mtX6_dark 29 (.if_icmp .ge 35) 3 32 := ⟨by decide +kernel, rfl⟩
theorem kX6_dark_32 : Dk mtX6_dark 32 (.iload_n 3) 1 33 := ⟨by decide +kernel, rfl⟩
theorem kX6_dark_33 : Dk mtX6_dark 33 (.ifCond .ne 19) 3 36 := ⟨by decide +kernel, rfl⟩
theorem kX6_dark_36 : Dk mtX6_dark 36 (.aload_n 0) 1 37 := ⟨by decide +kernel, rfl⟩
theorem kX6_dark_37 : Dk mtX6_dark 37 (.iload 4) 2 39 := ⟨by decide +kernel, rfl⟩
theorem kX6_dark_39 : Dk mtX6_dark 39 (.iload_n 2) 1 40 := ⟨by decide +kernel, rfl⟩
theorem kX6_dark_40 : Dk mtX6_dark 40 (.invokevirtual 50) 3 43 := ⟨by decide +kernel, rfl⟩
theorem kX6_dark_43 : Dk mtX6_dark 43 (.aload_n 0) 1 44 := ⟨by decide +kernel, rfl⟩
theorem kX6_dark_44 : Dk mtX6_dark 44 (.getfield 7) 3 47 := ⟨by decide +kernel, rfl⟩
theorem kX6_dark_47 : Dk mtX6_dark 47 (.iconst 2) 1 48 := ⟨by decide +kernel, rfl⟩
theorem kX6_dark_48 : Dk mtX6_dark 48 (.iaload) 1 49 := ⟨by decide +kernel, rfl⟩
theorem kX6_dark_49 : Dk mtX6_dark 49 (.if_icmp .lt 7) 3 52 := ⟨by decide +kernel, rfl⟩
theorem kX6_dark_52 : Dk mtX6_dark 52 (.iconst 1) 1 53 := ⟨by decide +kernel, rfl⟩
theorem kX6_dark_53 : Dk mtX6_dark 53 (.goto 4) 3 56 := ⟨by decide +kernel, rfl⟩
theorem kX6_dark_56 : Dk mtX6_dark 56 (.iconst 0) 1 57 := ⟨by decide +kernel, rfl⟩
theorem kX6_dark_57 : Dk mtX6_dark 57 (.istore_n 3) 1 58 := ⟨by decide +kernel, rfl⟩
theorem kX6_dark_58 : Dk mtX6_dark 58 (.iinc 4 1) 3 61 := ⟨by decide +kernel, rfl⟩
theorem kX6_dark_61 : Dk mtX6_dark 61 (.goto (-40)) 3 64 := ⟨by decide +kernel, rfl⟩
theorem kX6_dark_64 : Dk mtX6_dark 64 (.iload_n 1) 1 65 := ⟨by decide +kernel, rfl⟩
theorem kX6_dark_65 : Dk mtX6_dark 65 (.iload_n 3) 1 66 := ⟨by decide +kernel, rfl⟩
theorem kX6_dark_66 : Dk mtX6_dark 66 (.ifCond .eq 7) 3 69 := ⟨by decide +kernel, rfl⟩
theorem kX6_dark_69 : Dk mtX6_dark 69 (.iconst 0) 1 70 := ⟨by decide +kernel, rfl⟩
theorem kX6_dark_70 : Dk mtX6_dark 70 (.goto 4) 3 73 := ⟨by decide +kernel, rfl⟩
theorem kX6_dark_73 : Dk mtX6_dark 73 (.iconst 1) 1 74 := ⟨by decide +kernel, rfl⟩
theorem kX6_dark_74 : Dk mtX6_dark 74 (.iadd) 1 75 := ⟨by decide +kernel, rfl⟩
theorem kX6_dark_75 : Dk mtX6_dark 75 (.istore_n 1) 1 76 := ⟨by decide +kernel, rfl⟩
theorem kX6_dark_76 : Dk mtX6_dark 76 (.iinc 2 1) 3 79 := ⟨by decide +kernel, rfl⟩
theorem kX6_dark_79 : Dk mtX6_dark 79 (.goto (-70)) 3 82 := ⟨by decide +kernel, rfl⟩
theorem kX6_dark_82 : Dk mtX6_dark 82 (.iload_n 1) 1 83 := ⟨by decide +kernel, rfl⟩
theorem kX6_dark_83 : Dk mtX6_dark 83 (.ireturn) 1 84 := ⟨by decide +kernel, rfl⟩
set_option maxHeartbeats 4000000 in
set_option maxRecDepth 100000 in
theorem ct_dark {l : Launch} {w : Wd} {sg : Sg} (hWr : Wr w) {mo : Nat} (hI : Inv (sg (mo + 1))) : M l mtX6_dark w [vR (some (6, 0, mo))] sg (fI (F_dark (sg (mo + 1)) 200) (ups sg mo 0 0)) := by
  refine M_of [some (vR (some (6, 0, mo))), none, none, none, none] rfl (Nat.le_of_ble_eq_true rfl) (by decide +kernel) ?_
  intro p_ e_ s_ m_ args_ below_ meth_ c_ hC hO
  refine V_aload_n hC kX6_dark_0 rfl ?_
  refine V_iconst hC (0) kX6_dark_1 (by decide) ?_
  refine V_putI hC 6 0 lfX6_32 kX6_dark_2 (Nat.le_of_ble_eq_true rfl) (Nat.le_of_ble_eq_true rfl) rfl rfl ⟨rfl, rfl⟩ ?_
  refine V_nameS (fun sg0 e_sg0 => ?_)
  have hs1 : sg0 (mo + 1) = sg (mo + 1) := by rw [e_sg0]; exact upr_ne _ _ (by omega)
  have hs2 : sg0 (mo + 2) = sg (mo + 2) := by rw [e_sg0]; exact upr_ne _ _ (by omega)
  refine V_iconst hC (0) kX6_dark_5 (by decide) ?_
  refine V_istore_n hC [some _, some _, none, none, none] kX6_dark_6 rfl (Nat.le_of_ble_eq_true rfl) ?_
  refine V_iconst hC (0) kX6_dark_7 (by decide) ?_
  refine V_istore_n hC [some _, some _, some _, none, none] kX6_dark_8 rfl (Nat.le_of_ble_eq_true rfl) ?_
  refine V_loop 200 (fun i => [some (vR (some (6, 0, mo))), some (vI (F_dark (sg (mo + 1)) i)), some (vI (nI i)), none, none]) (fun i => sg0) rfl rfl ?_ (fun i hi ihi => ?_)
  · refine V_iload_n hC kX6_dark_9 rfl ?_
    refine V_sipush hC (200) kX6_dark_10 (by decide) ?_
    refine V_icmp_ge hC 82 kX6_dark_13 (by decide) (fun h13 => ?_) (fun h13 => absurd h13 (not_not_intro (nI_lit rfl)))
    refine V_iload_n hC kX6_dark_82 rfl ?_
    refine V_ireti hC rfl kX6_dark_83 ?_
    exact ⟨by with_reducible rfl, e_sg0⟩
  · refine V_iload_n hC kX6_dark_9 rfl ?_
    refine V_sipush hC (200) kX6_dark_10 (by decide) ?_
    refine V_icmp_ge hC 82 kX6_dark_13 (by decide) (fun h13 => absurd h13 (by exact nI_ge (b := 200) hi (by decide))) (fun h13 => ?_)
    refine V_iconst hC (0) kX6_dark_16 (by decide) ?_
    refine V_istore_n hC [some _, some _, some _, some _, none] kX6_dark_17 rfl (Nat.le_of_ble_eq_true rfl) ?_
    refine V_iconst hC (0) kX6_dark_18 (by decide) ?_
    refine V_istore hC [some _, some _, some _, some _, some _] kX6_dark_19 rfl (Nat.le_of_ble_eq_true rfl) ?_
    refine V_loop (tn ((sg (mo + 1)) 4)) (fun k => [some (vR (some (6, 0, mo))), some (vI (F_dark (sg (mo + 1)) i)), some (vI (nI i)), some (vI (F_lit (sg (mo + 1)) (nI i) k)), some (vI (nI k))]) (fun k => sg0) rfl rfl ?_ (fun k hk ihk => ?_)
    · refine V_iload hC kX6_dark_21 rfl ?_
      refine V_aload_n hC kX6_dark_23 rfl ?_
      refine V_getR hC hWr 6 1 lfX6_7 kX6_dark_24 (Nat.le_of_ble_eq_true rfl) (Nat.le_of_ble_eq_true rfl) rfl ?_
      refine V_iconst hC (4) kX6_dark_27 (by decide) ?_
      refine V_iald hC 4 rfl kX6_dark_28 (vp_lit rfl) ?_
      refine V_icmp_ge hC 64 kX6_dark_29 (by decide) (fun h29 => ?_) (fun h29 => absurd h29 (not_not_intro (by rw [hs1]; exact cnt_le hI.hc4.1)))
      refine V_iload_n hC kX6_dark_64 rfl ?_
      refine V_join 74 (if F_lit (sg (mo + 1)) (nI i) (tn ((sg (mo + 1)) 4)) = 0 then 1 else 0) ?_ (fun j74 => ?_)
      · refine V_iadd hC kX6_dark_74 ?_
        refine V_istore_n hC [some _, some _, some _, some _, some _] kX6_dark_75 rfl (Nat.le_of_ble_eq_true rfl) ?_
        refine V_iinc hC (_ + 1) [some _, some _, some _, some _, some _] kX6_dark_76 rfl rfl rfl (Nat.le_of_ble_eq_true rfl) ?_
        refine V_goto hC 9 kX6_dark_79 (by decide) ?_
        refine V_drop 3 [_, _, _, none, _] rfl ?_
        refine V_drop 4 [_, _, _, none, none] rfl ?_
        refine V_eq ?_ rfl ihi
        simp only [F_dark, nI_succ]
      · refine V_iload_n hC kX6_dark_65 rfl ?_
        refine V_if_eq hC 73 kX6_dark_66 (by decide) (fun h66 => ?_) (fun h66 => ?_)
        · refine V_iconst hC (1) kX6_dark_73 (by decide) ?_
          exact j74 _ ((if_pos h66).symm)
        · refine V_iconst hC (0) kX6_dark_69 (by decide) ?_
          refine V_goto hC 74 kX6_dark_70 (by decide) ?_
          exact j74 _ ((if_neg h66).symm)
    · have hi6 := hI.c4.1
      refine V_iload hC kX6_dark_21 rfl ?_
      refine V_aload_n hC kX6_dark_23 rfl ?_
      refine V_getR hC hWr 6 1 lfX6_7 kX6_dark_24 (Nat.le_of_ble_eq_true rfl) (Nat.le_of_ble_eq_true rfl) rfl ?_
      refine V_iconst hC (4) kX6_dark_27 (by decide) ?_
      refine V_iald hC 4 rfl kX6_dark_28 (vp_lit rfl) ?_
      refine V_icmp_ge hC 64 kX6_dark_29 (by decide) (fun h29 => absurd h29 (by rw [hs1]; exact cnt_lt hI.hc4.1 hk)) (fun h29 => ?_)
      refine V_join 57 (F_lit (sg (mo + 1)) (nI i) (k + 1)) ?_ (fun j57 => ?_)
      · refine V_istore_n hC [some _, some _, some _, some _, some _] kX6_dark_57 rfl (Nat.le_of_ble_eq_true rfl) ?_
        refine V_iinc hC (_ + 1) [some _, some _, some _, some _, some _] kX6_dark_58 rfl rfl rfl (Nat.le_of_ble_eq_true rfl) ?_
        refine V_goto hC 21 kX6_dark_61 (by decide) ?_
        refine V_eq ?_ rfl ihk
        simp only [nI_succ]
      · refine V_iload_n hC kX6_dark_32 rfl ?_
        refine V_if_ne hC 52 kX6_dark_33 (by decide) (fun h33 => ?_) (fun h33 => ?_)
        · refine V_iconst hC (1) kX6_dark_52 (by decide) ?_
          refine V_goto hC 57 kX6_dark_53 (by decide) ?_
          exact j57 _ ((by rw [F_lit, if_neg (fun z => h33 z.1)]))
        · refine V_aload_n hC kX6_dark_36 rfl ?_
          refine V_iload hC kX6_dark_37 rfl ?_
          refine V_iload_n hC kX6_dark_39 rfl ?_
          refine V_cV_fI hC (ct_bright hWr (nI k) (nI i) (vp_in_nI (by omega) (by decide)) (fun _ => by rw [hs1]; exact hI.ne hk)) mkX6_bright lmX6_50 kX6_dark_40 (Nat.le_of_ble_eq_true rfl) rfl rfl rfl (Nat.le_of_ble_eq_true rfl) ⟨(Nat.le_of_ble_eq_true rfl), (Nat.le_of_ble_eq_true rfl)⟩ ⟨rfl, rfl⟩ ⟨(Nat.le_of_ble_eq_true rfl), (Nat.le_of_ble_eq_true rfl)⟩ ?_
          refine V_aload_n hC kX6_dark_43 rfl ?_
          refine V_getR hC hWr 6 1 lfX6_7 kX6_dark_44 (Nat.le_of_ble_eq_true rfl) (Nat.le_of_ble_eq_true rfl) rfl ?_
          refine V_iconst hC (2) kX6_dark_47 (by decide) ?_
          refine V_iald hC 2 rfl kX6_dark_48 (vp_lit rfl) ?_
          refine V_icmp_lt hC 56 kX6_dark_49 (by decide) (fun h49 => ?_) (fun h49 => ?_)
          · refine V_iconst hC (0) kX6_dark_56 (by decide) ?_
            exact j57 _ ((by rw [hs1] at h49; rw [F_lit, if_pos ⟨h33, h49⟩]))
          · refine V_iconst hC (1) kX6_dark_52 (by decide) ?_
            refine V_goto hC 57 kX6_dark_53 (by decide) ?_
            exact j57 _ ((by rw [hs1] at h49; rw [F_lit, if_neg (fun z => h49 z.2)]))
def mtX6_turns : Mt := (yX6_turns, cX6_turns, 3, none, 9, 207, 0, 0)
theorem kX6_turns_0 : Dk mtX6_turns 0 (.iload_n 1) 1 1 := ⟨by decide +kernel, rfl⟩
theorem kX6_turns_1 : Dk mtX6_turns 1 (.bipush 16) 2 3 := ⟨by decide +kernel, rfl⟩
theorem kX6_turns_3 : Dk mtX6_turns 3 (.idiv) 1 4 := ⟨by decide +kernel, rfl⟩
theorem kX6_turns_4 : Dk mtX6_turns 4 (.istore_n 2) 1 5 := ⟨by decide +kernel, rfl⟩
theorem kX6_turns_5 : Dk mtX6_turns 5 (.iload_n 1) 1 6 := ⟨by decide +kernel, rfl⟩
theorem kX6_turns_6 : Dk mtX6_turns 6 (.bipush 16) 2 8 := ⟨by decide +kernel, rfl⟩
theorem kX6_turns_8 : Dk mtX6_turns 8 (.irem) 1 9 := ⟨by decide +kernel, rfl⟩
theorem kX6_turns_9 : Dk mtX6_turns 9 (.tableswitch 216 0 7 #[47, 47, 95, 95, 119, 141, 141, 162]) 47 56 := ⟨by decide +kernel, rfl⟩
theorem kX6_turns_56 : Dk mtX6_turns 56 (.aload_n 0) 1 57 := ⟨by decide +kernel, rfl⟩
theorem kX6_turns_57 : Dk mtX6_turns 57 (.iload_n 2) 1 58 := ⟨by decide +kernel, rfl⟩
theorem kX6_turns_58 : Dk mtX6_turns 58 (.sipush 200) 3 61 := ⟨by decide +kernel, rfl⟩
theorem kX6_turns_61 : Dk mtX6_turns 61 (.irem) 1 62 := ⟨by decide +kernel, rfl⟩
theorem kX6_turns_62 : Dk mtX6_turns 62 (.bipush 10) 2 64 := ⟨by decide +kernel, rfl⟩
theorem kX6_turns_64 : Dk mtX6_turns 64 (.iload_n 2) 1 65 := ⟨by decide +kernel, rfl⟩
theorem kX6_turns_65 : Dk mtX6_turns 65 (.sipush 256) 3 68 := ⟨by decide +kernel, rfl⟩
theorem kX6_turns_68 : Dk mtX6_turns 68 (.idiv) 1 69 := ⟨by decide +kernel, rfl⟩
theorem kX6_turns_69 : Dk mtX6_turns 69 (.bipush 90) 2 71 := ⟨by decide +kernel, rfl⟩
theorem kX6_turns_71 : Dk mtX6_turns 71 (.irem) 1 72 := ⟨by decide +kernel, rfl⟩
theorem kX6_turns_72 : Dk mtX6_turns 72 (.iadd) 1 73 := ⟨by decide +kernel, rfl⟩
theorem kX6_turns_73 : Dk mtX6_turns 73 (.iload_n 2) 1 74 := ⟨by decide +kernel, rfl⟩
theorem kX6_turns_74 : Dk mtX6_turns 74 (.iconst 3) 1 75 := ⟨by decide +kernel, rfl⟩
theorem kX6_turns_75 : Dk mtX6_turns 75 (.irem) 1 76 := ⟨by decide +kernel, rfl⟩
theorem kX6_turns_76 : Dk mtX6_turns 76 (.iconst 1) 1 77 := ⟨by decide +kernel, rfl⟩
theorem kX6_turns_77 : Dk mtX6_turns 77 (.iload_n 2) 1 78 := ⟨by decide +kernel, rfl⟩
theorem kX6_turns_78 : Dk mtX6_turns 78 (.bipush 8) 2 80 := ⟨by decide +kernel, rfl⟩
theorem kX6_turns_80 : Dk mtX6_turns 80 (.idiv) 1 81 := ⟨by decide +kernel, rfl⟩
theorem kX6_turns_81 : Dk mtX6_turns 81 (.bipush 20) 2 83 := ⟨by decide +kernel, rfl⟩
theorem kX6_turns_83 : Dk mtX6_turns 83 (.irem) 1 84 := ⟨by decide +kernel, rfl⟩
theorem kX6_turns_84 : Dk mtX6_turns 84 (.iadd) 1 85 := ⟨by decide +kernel, rfl⟩
theorem kX6_turns_85 : Dk mtX6_turns 85 (.iconst 1) 1 86 := ⟨by decide +kernel, rfl⟩
theorem kX6_turns_86 : Dk mtX6_turns 86 (.iload_n 2) 1 87 := ⟨by decide +kernel, rfl⟩
theorem kX6_turns_87 : Dk mtX6_turns 87 (.bipush 6) 2 89 := ⟨by decide +kernel, rfl⟩
theorem kX6_turns_89 : Dk mtX6_turns 89 (.irem) 1 90 := ⟨by decide +kernel, rfl⟩
theorem kX6_turns_90 : Dk mtX6_turns 90 (.iadd) 1 91 := ⟨by decide +kernel, rfl⟩
theorem kX6_turns_91 : Dk mtX6_turns 91 (.iload_n 2) 1 92 := ⟨by decide +kernel, rfl⟩
theorem kX6_turns_92 : Dk mtX6_turns 92 (.bipush 32) 2 94 := ⟨by decide +kernel, rfl⟩
theorem kX6_turns_94 : Dk mtX6_turns 94 (.idiv) 1 95 := ⟨by decide +kernel, rfl⟩
theorem kX6_turns_95 : Dk mtX6_turns 95 (.iconst 2) 1 96 := ⟨by decide +kernel, rfl⟩
theorem kX6_turns_96 : Dk mtX6_turns 96 (.irem) 1 97 := ⟨by decide +kernel, rfl⟩
theorem kX6_turns_97 : Dk mtX6_turns 97 (.invokevirtual 151) 3 100 := ⟨by decide +kernel, rfl⟩
theorem kX6_turns_100 : Dk mtX6_turns 100 (.pop) 1 101 := ⟨by decide +kernel, rfl⟩
theorem kX6_turns_101 : Dk mtX6_turns 101 (.goto 135) 3 104 := ⟨by decide +kernel, rfl⟩
theorem kX6_turns_104 : Dk mtX6_turns 104 (.aload_n 0) 1 105 := ⟨by decide +kernel, rfl⟩
theorem kX6_turns_105 : Dk mtX6_turns 105 (.iload_n 2) 1 106 := ⟨by decide +kernel, rfl⟩
theorem kX6_turns_106 : Dk mtX6_turns 106 (.sipush 200) 3 109 := ⟨by decide +kernel, rfl⟩
theorem kX6_turns_109 : Dk mtX6_turns 109 (.irem) 1 110 := ⟨by decide +kernel, rfl⟩
theorem kX6_turns_110 : Dk mtX6_turns 110 (.iload_n 2) 1 111 := ⟨by decide +kernel, rfl⟩
theorem kX6_turns_111 : Dk mtX6_turns 111 (.sipush 256) 3 114 := ⟨by decide +kernel, rfl⟩
theorem kX6_turns_114 : Dk mtX6_turns 114 (.idiv) 1 115 := ⟨by decide +kernel, rfl⟩
theorem kX6_turns_115 : Dk mtX6_turns 115 (.bipush 13) 2 117 := ⟨by decide +kernel, rfl⟩
theorem kX6_turns_117 : Dk mtX6_turns 117 (.irem) 1 118 := ⟨by decide +kernel, rfl⟩
theorem kX6_turns_118 : Dk mtX6_turns 118 (.bipush 6) 2 120 := ⟨by decide +kernel, rfl⟩
theorem kX6_turns_120 : Dk mtX6_turns 120 (.isub) 1 121 := ⟨by decide +kernel, rfl⟩
theorem kX6_turns_121 : Dk mtX6_turns 121 (.invokevirtual 154) 3 124 := ⟨by decide +kernel, rfl⟩
theorem kX6_turns_124 : Dk mtX6_turns 124 (.pop) 1 125 := ⟨by decide +kernel, rfl⟩
theorem kX6_turns_125 : Dk mtX6_turns 125 (.goto 111) 3 128 := ⟨by decide +kernel, rfl⟩
theorem kX6_turns_128 : Dk mtX6_turns 128 (.aload_n 0) 1 129 := ⟨by decide +kernel, rfl⟩
theorem kX6_turns_129 : Dk mtX6_turns 129 (.iload_n 2) 1 130 := ⟨by decide +kernel, rfl⟩
theorem kX6_turns_130 : Dk mtX6_turns 130 (.bipush 8) 2 132 := ⟨by decide +kernel, rfl⟩
theorem kX6_turns_132 : Dk mtX6_turns 132 (.irem) 1 133 := ⟨by decide +kernel, rfl⟩
theorem kX6_turns_133 : Dk mtX6_turns 133 (.iload_n 2) 1 134 := ⟨by decide +kernel, rfl⟩
theorem kX6_turns_134 : Dk mtX6_turns 134 (.bipush 8) 2 136 := ⟨by decide +kernel, rfl⟩
theorem kX6_turns_136 : Dk mtX6_turns 136 (.idiv) 1 137 := ⟨by decide +kernel, rfl⟩
theorem kX6_turns_137 : Dk mtX6_turns 137 (.bipush 13) 2 139 := ⟨by decide +kernel, rfl⟩
theorem kX6_turns_139 : Dk mtX6_turns 139 (.irem) 1 140 := ⟨by decide +kernel, rfl⟩
theorem kX6_turns_140 : Dk mtX6_turns 140 (.bipush 6) 2 142 := ⟨by decide +kernel, rfl⟩
theorem kX6_turns_142 : Dk mtX6_turns 142 (.isub) 1 143 := ⟨by decide +kernel, rfl⟩
theorem kX6_turns_143 : Dk mtX6_turns 143 (.invokevirtual 157) 3 146 := ⟨by decide +kernel, rfl⟩
theorem kX6_turns_146 : Dk mtX6_turns 146 (.pop) 1 147 := ⟨by decide +kernel, rfl⟩
theorem kX6_turns_147 : Dk mtX6_turns 147 (.goto 89) 3 150 := ⟨by decide +kernel, rfl⟩
theorem kX6_turns_150 : Dk mtX6_turns 150 (.aload_n 0) 1 151 := ⟨by decide +kernel, rfl⟩
theorem kX6_turns_151 : Dk mtX6_turns 151 (.iload_n 2) 1 152 := ⟨by decide +kernel, rfl⟩
theorem kX6_turns_152 : Dk mtX6_turns 152 (.bipush 8) 2 154 := ⟨by decide +kernel, rfl⟩
theorem kX6_turns_154 : Dk mtX6_turns 154 (.irem) 1 155 := ⟨by decide +kernel, rfl⟩
theorem kX6_turns_155 : Dk mtX6_turns 155 (.iconst 1) 1 156 := ⟨by decide +kernel, rfl⟩
theorem kX6_turns_156 : Dk mtX6_turns 156 (.iload_n 2) 1 157 := ⟨by decide +kernel, rfl⟩
theorem kX6_turns_157 : Dk mtX6_turns 157 (.bipush 8) 2 159 := ⟨by decide +kernel, rfl⟩
theorem kX6_turns_159 : Dk mtX6_turns 159 (.idiv) 1 160 := ⟨by decide +kernel, rfl⟩
theorem kX6_turns_160 : Dk mtX6_turns 160 (.bipush 60) 2 162 := ⟨by decide +kernel, rfl⟩
theorem kX6_turns_162 : Dk mtX6_turns 162 (.irem) 1 163 := ⟨by decide +kernel, rfl⟩
theorem kX6_turns_163 : Dk mtX6_turns 163 (.iadd) 1 164 := ⟨by decide +kernel, rfl⟩
theorem kX6_turns_164 : Dk mtX6_turns 164 (.invokevirtual 160) 3 167 := ⟨by decide +kernel, rfl⟩
theorem kX6_turns_167 : Dk mtX6_turns 167 (.pop) 1 168 := ⟨by decide +kernel, rfl⟩
theorem kX6_turns_168 : Dk mtX6_turns 168 (.goto 68) 3 171 := ⟨by decide +kernel, rfl⟩
theorem kX6_turns_171 : Dk mtX6_turns 171 (.iload_n 2) 1 172 := ⟨by decide +kernel, rfl⟩
theorem kX6_turns_172 : Dk mtX6_turns 172 (.sipush 512) 3 175 := ⟨by decide +kernel, rfl⟩
theorem kX6_turns_175 : Dk mtX6_turns 175 (.idiv) 1 176 := ⟨by decide +kernel, rfl⟩
theorem kX6_turns_176 : Dk mtX6_turns 176 (.iconst 2) 1 177 := ⟨by decide +kernel, rfl⟩
theorem kX6_turns_177 : Dk mtX6_turns 177 (.irem) 1 178 := ⟨by decide +kernel, rfl⟩
theorem kX6_turns_178 : Dk mtX6_turns 178 (.ifCond .ne 25) 3 181 := ⟨by decide +kernel, rfl⟩
theorem kX6_turns_181 : Dk mtX6_turns 181 (.aload_n 0) 1 182 := ⟨by decide +kernel, rfl⟩
theorem kX6_turns_182 : Dk mtX6_turns 182 (.iload_n 2) 1 183 := ⟨by decide +kernel, rfl⟩
theorem kX6_turns_183 : Dk mtX6_turns 183 (.bipush 6) 2 185 := ⟨by decide +kernel, rfl⟩
theorem kX6_turns_185 : Dk mtX6_turns 185 (.irem) 1 186 := ⟨by decide +kernel, rfl⟩
theorem kX6_turns_186 : Dk mtX6_turns 186 (.iload_n 2) 1 187 := ⟨by decide +kernel, rfl⟩
theorem kX6_turns_187 : Dk mtX6_turns 187 (.bipush 8) 2 189 := ⟨by decide +kernel, rfl⟩
theorem kX6_turns_189 : Dk mtX6_turns 189 (.idiv) 1 190 := ⟨by decide +kernel, rfl⟩
theorem kX6_turns_190 : Dk mtX6_turns 190 (.bipush 61) 2 192 := ⟨by decide +kernel, rfl⟩
theorem kX6_turns_192 : Dk mtX6_turns 192 (.irem) 1 193 := ⟨by decide +kernel, rfl⟩
theorem kX6_turns_193 : Dk mtX6_turns 193 (.bipush 30) 2 195 := ⟨by decide +kernel, rfl⟩
theorem kX6_turns_195 : Dk mtX6_turns 195 (.isub) 1 196 := ⟨by decide +kernel, rfl⟩
theorem kX6_turns_196 : Dk mtX6_turns 196 (.invokevirtual 200) 3 199 := ⟨by decide +kernel, rfl⟩
theorem kX6_turns_199 : Dk mtX6_turns 199 (.pop) 1 200 := ⟨by decide +kernel, rfl⟩
theorem kX6_turns_200 : Dk mtX6_turns 200 (.goto 36) 3 203 := ⟨by decide +kernel, rfl⟩
theorem kX6_turns_203 : Dk mtX6_turns 203 (.aload_n 0) 1 204 := ⟨by decide +kernel, rfl⟩
theorem kX6_turns_204 : Dk mtX6_turns 204 (.iload_n 2) 1 205 := ⟨by decide +kernel, rfl⟩
theorem kX6_turns_205 : Dk mtX6_turns 205 (.bipush 6) 2 207 := ⟨by decide +kernel, rfl⟩
theorem kX6_turns_207 : Dk mtX6_turns 207 (.irem) 1 208 := ⟨by decide +kernel, rfl⟩
theorem kX6_turns_208 : Dk mtX6_turns 208 (.bipush 10) 2 210 := ⟨by decide +kernel, rfl⟩
theorem kX6_turns_210 : Dk mtX6_turns 210 (.iload_n 2) 1 211 := ⟨by decide +kernel, rfl⟩
theorem kX6_turns_211 : Dk mtX6_turns 211 (.bipush 8) 2 213 := ⟨by decide +kernel, rfl⟩
theorem kX6_turns_213 : Dk mtX6_turns 213 (.idiv) 1 214 := ⟨by decide +kernel, rfl⟩
theorem kX6_turns_214 : Dk mtX6_turns 214 (.bipush 90) 2 216 := ⟨by decide +kernel, rfl⟩
theorem kX6_turns_216 : Dk mtX6_turns 216 (.irem) 1 217 := ⟨by decide +kernel, rfl⟩
theorem kX6_turns_217 : Dk mtX6_turns 217 (.iadd) 1 218 := ⟨by decide +kernel, rfl⟩
theorem kX6_turns_218 : Dk mtX6_turns 218 (.invokevirtual 203) 3 221 := ⟨by decide +kernel, rfl⟩
theorem kX6_turns_221 : Dk mtX6_turns 221 (.pop) 1 222 := ⟨by decide +kernel, rfl⟩
theorem kX6_turns_222 : Dk mtX6_turns 222 (.goto 14) 3 225 := ⟨by decide +kernel, rfl⟩
theorem kX6_turns_225 : Dk mtX6_turns 225 (.aload_n 0) 1 226 := ⟨by decide +kernel, rfl⟩
theorem kX6_turns_226 : Dk mtX6_turns 226 (.iconst 1) 1 227 := ⟨by decide +kernel, rfl⟩
theorem kX6_turns_227 : Dk mtX6_turns 227 (.iload_n 2) 1 228 := ⟨by decide +kernel, rfl⟩
theorem kX6_turns_228 : Dk mtX6_turns 228 (.bipush 12) 2 230 := ⟨by decide +kernel, rfl⟩
theorem kX6_turns_230 : Dk mtX6_turns 230 (.irem) 1 231 := ⟨by decide +kernel, rfl⟩
theorem kX6_turns_231 : Dk mtX6_turns 231 (.iadd) 1 232 := ⟨by decide +kernel, rfl⟩
theorem kX6_turns_232 : Dk mtX6_turns 232 (.invokevirtual 166) 3 235 := ⟨by decide +kernel, rfl⟩
theorem kX6_turns_235 : Dk mtX6_turns 235 (.pop) 1 236 := ⟨by decide +kernel, rfl⟩
theorem kX6_turns_236 : Dk mtX6_turns 236 (.return_) 1 237 := ⟨by decide +kernel, rfl⟩
theorem lmX6_151 : LkM RX6 151 mtX6_actsLight := Or.inl (by decide +kernel)
theorem mkX6_actsLight : MkV mtX6_actsLight 6 := ⟨List.mem_of_getElem? (i := 1113) (by decide +kernel), by decide +kernel, by decide +kernel, by decide +kernel, ⟨by decide +kernel, by decide +kernel, by decide +kernel⟩⟩
theorem lmX6_154 : LkM RX6 154 mtX6_actsBoat := Or.inl (by decide +kernel)
theorem mkX6_actsBoat : MkV mtX6_actsBoat 2 := ⟨List.mem_of_getElem? (i := 1131) (by decide +kernel), by decide +kernel, by decide +kernel, by decide +kernel, ⟨by decide +kernel, by decide +kernel, by decide +kernel⟩⟩
set_option maxHeartbeats 4000000 in
set_option maxRecDepth 100000 in
theorem ct_turns {l : Launch} {w : Wd} {sg : Sg} (hWr : Wr w) {mo : Nat} (r : Int32) (hr : 0 ≤ r.toInt) (hI : Inv (sg (mo + 1))) : M l mtX6_turns w [vR (some (6, 0, mo)), vI r] sg (fV0 (upr sg (mo + 1) (F_turn (sg (mo + 1)) r))) := by
  refine M_of [some (vR (some (6, 0, mo))), some (vI r), none] rfl (Nat.le_of_ble_eq_true rfl) (by decide +kernel) ?_
  intro p_ e_ s_ m_ args_ below_ meth_ c_ hC hO
  refine V_iload_n hC kX6_turns_0 rfl ?_
  refine V_bipush hC (16) kX6_turns_1 (by decide) ?_
  refine V_idiv hC kX6_turns_3 (by decide) ?_
  refine V_nameI (fun q e_q => ?_)
  refine V_istore_n hC [some _, some _, some _] kX6_turns_4 rfl (Nat.le_of_ble_eq_true rfl) ?_
  refine V_iload_n hC kX6_turns_5 rfl ?_
  refine V_bipush hC (16) kX6_turns_6 (by decide) ?_
  refine V_irem hC kX6_turns_8 (by decide) ?_
  obtain ⟨N, hN, ex⟩ := rm16 hr
  have et : tn (rm r 16) = N := by rw [ex]; exact nI_clamp (by omega)
  subst e_q
  rcases (show N = 0 ∨ N = 1 ∨ N = 2 ∨ N = 3 ∨ N = 4 ∨ N = 5 ∨ N = 6 ∨ N = 7 ∨ 8 ≤ N by omega) with e | e | e | e | e | e | e | e | e
  · subst e
    refine V_tabIn hC (47) 56 kX6_turns_9 (by rw [show r - r / 16 * 16 = nI 0 from ex]; decide) (by rw [show r - r / 16 * 16 = nI 0 from ex]; decide) (by rw [show r - r / 16 * 16 = nI 0 from ex]; rfl) (by decide) ?_
    refine V_aload_n hC kX6_turns_56 rfl ?_
    refine V_iload_n hC kX6_turns_57 rfl ?_
    refine V_sipush hC (200) kX6_turns_58 (by decide) ?_
    refine V_irem hC kX6_turns_61 (by decide) ?_
    refine V_bipush hC (10) kX6_turns_62 (by decide) ?_
    refine V_iload_n hC kX6_turns_64 rfl ?_
    refine V_sipush hC (256) kX6_turns_65 (by decide) ?_
    refine V_idiv hC kX6_turns_68 (by decide) ?_
    refine V_bipush hC (90) kX6_turns_69 (by decide) ?_
    refine V_irem hC kX6_turns_71 (by decide) ?_
    refine V_iadd hC kX6_turns_72 ?_
    refine V_iload_n hC kX6_turns_73 rfl ?_
    refine V_iconst hC (3) kX6_turns_74 (by decide) ?_
    refine V_irem hC kX6_turns_75 (by decide) ?_
    refine V_iconst hC (1) kX6_turns_76 (by decide) ?_
    refine V_iload_n hC kX6_turns_77 rfl ?_
    refine V_bipush hC (8) kX6_turns_78 (by decide) ?_
    refine V_idiv hC kX6_turns_80 (by decide) ?_
    refine V_bipush hC (20) kX6_turns_81 (by decide) ?_
    refine V_irem hC kX6_turns_83 (by decide) ?_
    refine V_iadd hC kX6_turns_84 ?_
    refine V_iconst hC (1) kX6_turns_85 (by decide) ?_
    refine V_iload_n hC kX6_turns_86 rfl ?_
    refine V_bipush hC (6) kX6_turns_87 (by decide) ?_
    refine V_irem hC kX6_turns_89 (by decide) ?_
    refine V_iadd hC kX6_turns_90 ?_
    refine V_iload_n hC kX6_turns_91 rfl ?_
    refine V_bipush hC (32) kX6_turns_92 (by decide) ?_
    refine V_idiv hC kX6_turns_94 (by decide) ?_
    refine V_iconst hC (2) kX6_turns_95 (by decide) ?_
    refine V_irem hC kX6_turns_96 (by decide) ?_
    refine V_cV_fI hC (ct_actsLight hWr _ _ _ _ _ _ hI.hc4) mkX6_actsLight lmX6_151 kX6_turns_97 (Nat.le_of_ble_eq_true rfl) rfl rfl rfl (Nat.le_of_ble_eq_true rfl) ⟨(Nat.le_of_ble_eq_true rfl), (Nat.le_of_ble_eq_true rfl)⟩ ⟨rfl, rfl⟩ ⟨(Nat.le_of_ble_eq_true rfl), (Nat.le_of_ble_eq_true rfl)⟩ ?_
    refine V_pop hC kX6_turns_100 rfl ?_
    refine V_goto hC 236 kX6_turns_101 (by decide) ?_
    refine V_vret hC rfl kX6_turns_236 ?_
    refine ⟨by with_reducible rfl, ?_⟩
    rw [F_turn, et]
    exact congrArg (upr sg (mo + 1)) (if_pos (by decide : 0 < 2)).symm
  · subst e
    refine V_tabIn hC (47) 56 kX6_turns_9 (by rw [show r - r / 16 * 16 = nI 1 from ex]; decide) (by rw [show r - r / 16 * 16 = nI 1 from ex]; decide) (by rw [show r - r / 16 * 16 = nI 1 from ex]; rfl) (by decide) ?_
    refine V_aload_n hC kX6_turns_56 rfl ?_
    refine V_iload_n hC kX6_turns_57 rfl ?_
    refine V_sipush hC (200) kX6_turns_58 (by decide) ?_
    refine V_irem hC kX6_turns_61 (by decide) ?_
    refine V_bipush hC (10) kX6_turns_62 (by decide) ?_
    refine V_iload_n hC kX6_turns_64 rfl ?_
    refine V_sipush hC (256) kX6_turns_65 (by decide) ?_
    refine V_idiv hC kX6_turns_68 (by decide) ?_
    refine V_bipush hC (90) kX6_turns_69 (by decide) ?_
    refine V_irem hC kX6_turns_71 (by decide) ?_
    refine V_iadd hC kX6_turns_72 ?_
    refine V_iload_n hC kX6_turns_73 rfl ?_
    refine V_iconst hC (3) kX6_turns_74 (by decide) ?_
    refine V_irem hC kX6_turns_75 (by decide) ?_
    refine V_iconst hC (1) kX6_turns_76 (by decide) ?_
    refine V_iload_n hC kX6_turns_77 rfl ?_
    refine V_bipush hC (8) kX6_turns_78 (by decide) ?_
    refine V_idiv hC kX6_turns_80 (by decide) ?_
    refine V_bipush hC (20) kX6_turns_81 (by decide) ?_
    refine V_irem hC kX6_turns_83 (by decide) ?_
    refine V_iadd hC kX6_turns_84 ?_
    refine V_iconst hC (1) kX6_turns_85 (by decide) ?_
    refine V_iload_n hC kX6_turns_86 rfl ?_
    refine V_bipush hC (6) kX6_turns_87 (by decide) ?_
    refine V_irem hC kX6_turns_89 (by decide) ?_
    refine V_iadd hC kX6_turns_90 ?_
    refine V_iload_n hC kX6_turns_91 rfl ?_
    refine V_bipush hC (32) kX6_turns_92 (by decide) ?_
    refine V_idiv hC kX6_turns_94 (by decide) ?_
    refine V_iconst hC (2) kX6_turns_95 (by decide) ?_
    refine V_irem hC kX6_turns_96 (by decide) ?_
    refine V_cV_fI hC (ct_actsLight hWr _ _ _ _ _ _ hI.hc4) mkX6_actsLight lmX6_151 kX6_turns_97 (Nat.le_of_ble_eq_true rfl) rfl rfl rfl (Nat.le_of_ble_eq_true rfl) ⟨(Nat.le_of_ble_eq_true rfl), (Nat.le_of_ble_eq_true rfl)⟩ ⟨rfl, rfl⟩ ⟨(Nat.le_of_ble_eq_true rfl), (Nat.le_of_ble_eq_true rfl)⟩ ?_
    refine V_pop hC kX6_turns_100 rfl ?_
    refine V_goto hC 236 kX6_turns_101 (by decide) ?_
    refine V_vret hC rfl kX6_turns_236 ?_
    refine ⟨by with_reducible rfl, ?_⟩
    rw [F_turn, et]
    exact congrArg (upr sg (mo + 1)) (if_pos (by decide : 1 < 2)).symm
  · subst e
    refine V_tabIn hC (95) 104 kX6_turns_9 (by rw [show r - r / 16 * 16 = nI 2 from ex]; decide) (by rw [show r - r / 16 * 16 = nI 2 from ex]; decide) (by rw [show r - r / 16 * 16 = nI 2 from ex]; rfl) (by decide) ?_
    refine V_aload_n hC kX6_turns_104 rfl ?_
    refine V_iload_n hC kX6_turns_105 rfl ?_
    refine V_sipush hC (200) kX6_turns_106 (by decide) ?_
    refine V_irem hC kX6_turns_109 (by decide) ?_
    refine V_iload_n hC kX6_turns_110 rfl ?_
    refine V_sipush hC (256) kX6_turns_111 (by decide) ?_
    refine V_idiv hC kX6_turns_114 (by decide) ?_
    refine V_bipush hC (13) kX6_turns_115 (by decide) ?_
    refine V_irem hC kX6_turns_117 (by decide) ?_
    refine V_bipush hC (6) kX6_turns_118 (by decide) ?_
    refine V_isub hC kX6_turns_120 ?_
    refine V_cV_fI hC (ct_actsBoat hWr _ _ hI.hc5) mkX6_actsBoat lmX6_154 kX6_turns_121 (Nat.le_of_ble_eq_true rfl) rfl rfl rfl (Nat.le_of_ble_eq_true rfl) ⟨(Nat.le_of_ble_eq_true rfl), (Nat.le_of_ble_eq_true rfl)⟩ ⟨rfl, rfl⟩ ⟨(Nat.le_of_ble_eq_true rfl), (Nat.le_of_ble_eq_true rfl)⟩ ?_
    refine V_pop hC kX6_turns_124 rfl ?_
    refine V_goto hC 236 kX6_turns_125 (by decide) ?_
    refine V_vret hC rfl kX6_turns_236 ?_
    refine ⟨by with_reducible rfl, ?_⟩
    rw [F_turn, et]
    exact congrArg (upr sg (mo + 1)) (Eq.trans (if_neg (by decide : ¬ 2 < 2)) (if_pos (by decide : 2 < 4))).symm
  · subst e
    refine V_tabIn hC (95) 104 kX6_turns_9 (by rw [show r - r / 16 * 16 = nI 3 from ex]; decide) (by rw [show r - r / 16 * 16 = nI 3 from ex]; decide) (by rw [show r - r / 16 * 16 = nI 3 from ex]; rfl) (by decide) ?_
    refine V_aload_n hC kX6_turns_104 rfl ?_
    refine V_iload_n hC kX6_turns_105 rfl ?_
    refine V_sipush hC (200) kX6_turns_106 (by decide) ?_
    refine V_irem hC kX6_turns_109 (by decide) ?_
    refine V_iload_n hC kX6_turns_110 rfl ?_
    refine V_sipush hC (256) kX6_turns_111 (by decide) ?_
    refine V_idiv hC kX6_turns_114 (by decide) ?_
    refine V_bipush hC (13) kX6_turns_115 (by decide) ?_
    refine V_irem hC kX6_turns_117 (by decide) ?_
    refine V_bipush hC (6) kX6_turns_118 (by decide) ?_
    refine V_isub hC kX6_turns_120 ?_
    refine V_cV_fI hC (ct_actsBoat hWr _ _ hI.hc5) mkX6_actsBoat lmX6_154 kX6_turns_121 (Nat.le_of_ble_eq_true rfl) rfl rfl rfl (Nat.le_of_ble_eq_true rfl) ⟨(Nat.le_of_ble_eq_true rfl), (Nat.le_of_ble_eq_true rfl)⟩ ⟨rfl, rfl⟩ ⟨(Nat.le_of_ble_eq_true rfl), (Nat.le_of_ble_eq_true rfl)⟩ ?_
    refine V_pop hC kX6_turns_124 rfl ?_
    refine V_goto hC 236 kX6_turns_125 (by decide) ?_
    refine V_vret hC rfl kX6_turns_236 ?_
    refine ⟨by with_reducible rfl, ?_⟩
    rw [F_turn, et]
    exact congrArg (upr sg (mo + 1)) (Eq.trans (if_neg (by decide : ¬ 3 < 2)) (if_pos (by decide : 3 < 4))).symm
  · subst e
    refine V_tabIn hC (119) 128 kX6_turns_9 (by rw [show r - r / 16 * 16 = nI 4 from ex]; decide) (by rw [show r - r / 16 * 16 = nI 4 from ex]; decide) (by rw [show r - r / 16 * 16 = nI 4 from ex]; rfl) (by decide) ?_
    refine V_aload_n hC kX6_turns_128 rfl ?_
    refine V_iload_n hC kX6_turns_129 rfl ?_
    refine V_bipush hC (8) kX6_turns_130 (by decide) ?_
    refine V_irem hC kX6_turns_132 (by decide) ?_
    refine V_iload_n hC kX6_turns_133 rfl ?_
    refine V_bipush hC (8) kX6_turns_134 (by decide) ?_
    refine V_idiv hC kX6_turns_136 (by decide) ?_
    refine V_bipush hC (13) kX6_turns_137 (by decide) ?_
    refine V_irem hC kX6_turns_139 (by decide) ?_
    refine V_bipush hC (6) kX6_turns_140 (by decide) ?_
    refine V_isub hC kX6_turns_142 ?_
    refine V_cV_fI hC (ct_actsSteer hWr _ _ hI.hc5) mkX6_actsSteer lmX6_157 kX6_turns_143 (Nat.le_of_ble_eq_true rfl) rfl rfl rfl (Nat.le_of_ble_eq_true rfl) ⟨(Nat.le_of_ble_eq_true rfl), (Nat.le_of_ble_eq_true rfl)⟩ ⟨rfl, rfl⟩ ⟨(Nat.le_of_ble_eq_true rfl), (Nat.le_of_ble_eq_true rfl)⟩ ?_
    refine V_pop hC kX6_turns_146 rfl ?_
    refine V_goto hC 236 kX6_turns_147 (by decide) ?_
    refine V_vret hC rfl kX6_turns_236 ?_
    refine ⟨by with_reducible rfl, ?_⟩
    rw [F_turn, et]
    exact congrArg (upr sg (mo + 1)) (Eq.trans (if_neg (by decide : ¬ 4 < 2)) (Eq.trans (if_neg (by decide : ¬ 4 < 4)) (if_pos (by decide : 4 < 5)))).symm
  · subst e
    refine V_tabIn hC (141) 150 kX6_turns_9 (by rw [show r - r / 16 * 16 = nI 5 from ex]; decide) (by rw [show r - r / 16 * 16 = nI 5 from ex]; decide) (by rw [show r - r / 16 * 16 = nI 5 from ex]; rfl) (by decide) ?_
    refine V_aload_n hC kX6_turns_150 rfl ?_
    refine V_iload_n hC kX6_turns_151 rfl ?_
    refine V_bipush hC (8) kX6_turns_152 (by decide) ?_
    refine V_irem hC kX6_turns_154 (by decide) ?_
    refine V_iconst hC (1) kX6_turns_155 (by decide) ?_
    refine V_iload_n hC kX6_turns_156 rfl ?_
    refine V_bipush hC (8) kX6_turns_157 (by decide) ?_
    refine V_idiv hC kX6_turns_159 (by decide) ?_
    refine V_bipush hC (60) kX6_turns_160 (by decide) ?_
    refine V_irem hC kX6_turns_162 (by decide) ?_
    refine V_iadd hC kX6_turns_163 ?_
    refine V_cV_fI hC (ct_actsTalk hWr _ _ hI.hc5) mkX6_actsTalk lmX6_160 kX6_turns_164 (Nat.le_of_ble_eq_true rfl) rfl rfl rfl (Nat.le_of_ble_eq_true rfl) ⟨(Nat.le_of_ble_eq_true rfl), (Nat.le_of_ble_eq_true rfl)⟩ ⟨rfl, rfl⟩ ⟨(Nat.le_of_ble_eq_true rfl), (Nat.le_of_ble_eq_true rfl)⟩ ?_
    refine V_pop hC kX6_turns_167 rfl ?_
    refine V_goto hC 236 kX6_turns_168 (by decide) ?_
    refine V_vret hC rfl kX6_turns_236 ?_
    refine ⟨by with_reducible rfl, ?_⟩
    rw [F_turn, et]
    exact congrArg (upr sg (mo + 1)) (Eq.trans (if_neg (by decide : ¬ 5 < 2)) (Eq.trans (if_neg (by decide : ¬ 5 < 4)) (Eq.trans (if_neg (by decide : ¬ 5 < 5)) (if_pos (by decide : 5 < 7))))).symm
  · subst e
    refine V_tabIn hC (141) 150 kX6_turns_9 (by rw [show r - r / 16 * 16 = nI 6 from ex]; decide) (by rw [show r - r / 16 * 16 = nI 6 from ex]; decide) (by rw [show r - r / 16 * 16 = nI 6 from ex]; rfl) (by decide) ?_
    refine V_aload_n hC kX6_turns_150 rfl ?_
    refine V_iload_n hC kX6_turns_151 rfl ?_
    refine V_bipush hC (8) kX6_turns_152 (by decide) ?_
    refine V_irem hC kX6_turns_154 (by decide) ?_
    refine V_iconst hC (1) kX6_turns_155 (by decide) ?_
    refine V_iload_n hC kX6_turns_156 rfl ?_
    refine V_bipush hC (8) kX6_turns_157 (by decide) ?_
    refine V_idiv hC kX6_turns_159 (by decide) ?_
    refine V_bipush hC (60) kX6_turns_160 (by decide) ?_
    refine V_irem hC kX6_turns_162 (by decide) ?_
    refine V_iadd hC kX6_turns_163 ?_
    refine V_cV_fI hC (ct_actsTalk hWr _ _ hI.hc5) mkX6_actsTalk lmX6_160 kX6_turns_164 (Nat.le_of_ble_eq_true rfl) rfl rfl rfl (Nat.le_of_ble_eq_true rfl) ⟨(Nat.le_of_ble_eq_true rfl), (Nat.le_of_ble_eq_true rfl)⟩ ⟨rfl, rfl⟩ ⟨(Nat.le_of_ble_eq_true rfl), (Nat.le_of_ble_eq_true rfl)⟩ ?_
    refine V_pop hC kX6_turns_167 rfl ?_
    refine V_goto hC 236 kX6_turns_168 (by decide) ?_
    refine V_vret hC rfl kX6_turns_236 ?_
    refine ⟨by with_reducible rfl, ?_⟩
    rw [F_turn, et]
    exact congrArg (upr sg (mo + 1)) (Eq.trans (if_neg (by decide : ¬ 6 < 2)) (Eq.trans (if_neg (by decide : ¬ 6 < 4)) (Eq.trans (if_neg (by decide : ¬ 6 < 5)) (if_pos (by decide : 6 < 7))))).symm
  · subst e
    refine V_tabIn hC (162) 171 kX6_turns_9 (by rw [show r - r / 16 * 16 = nI 7 from ex]; decide) (by rw [show r - r / 16 * 16 = nI 7 from ex]; decide) (by rw [show r - r / 16 * 16 = nI 7 from ex]; rfl) (by decide) ?_
    refine V_iload_n hC kX6_turns_171 rfl ?_
    refine V_sipush hC (512) kX6_turns_172 (by decide) ?_
    refine V_idiv hC kX6_turns_175 (by decide) ?_
    refine V_iconst hC (2) kX6_turns_176 (by decide) ?_
    refine V_irem hC kX6_turns_177 (by decide) ?_
    refine V_if_ne hC 203 kX6_turns_178 (by decide) (fun h178 => ?_) (fun h178 => ?_)
    · refine V_aload_n hC kX6_turns_203 rfl ?_
      refine V_iload_n hC kX6_turns_204 rfl ?_
      refine V_bipush hC (6) kX6_turns_205 (by decide) ?_
      refine V_irem hC kX6_turns_207 (by decide) ?_
      refine V_bipush hC (10) kX6_turns_208 (by decide) ?_
      refine V_iload_n hC kX6_turns_210 rfl ?_
      refine V_bipush hC (8) kX6_turns_211 (by decide) ?_
      refine V_idiv hC kX6_turns_213 (by decide) ?_
      refine V_bipush hC (90) kX6_turns_214 (by decide) ?_
      refine V_irem hC kX6_turns_216 (by decide) ?_
      refine V_iadd hC kX6_turns_217 ?_
      refine V_cV_fI hC (ct_actsDim hWr _ _ hI.hc4) mkX6_actsDim lmX6_203 kX6_turns_218 (Nat.le_of_ble_eq_true rfl) rfl rfl rfl (Nat.le_of_ble_eq_true rfl) ⟨(Nat.le_of_ble_eq_true rfl), (Nat.le_of_ble_eq_true rfl)⟩ ⟨rfl, rfl⟩ ⟨(Nat.le_of_ble_eq_true rfl), (Nat.le_of_ble_eq_true rfl)⟩ ?_
      refine V_pop hC kX6_turns_221 rfl ?_
      refine V_goto hC 236 kX6_turns_222 (by decide) ?_
      refine V_vret hC rfl kX6_turns_236 ?_
      refine ⟨by with_reducible rfl, ?_⟩
      rw [F_turn, et]
      first
        | exact congrArg (upr sg (mo + 1)) (Eq.trans (if_neg (by decide : ¬ 7 < 2)) (Eq.trans (if_neg (by decide : ¬ 7 < 4)) (Eq.trans (if_neg (by decide : ¬ 7 < 5)) (Eq.trans (if_neg (by decide : ¬ 7 < 7)) (Eq.trans (if_pos (by decide : 7 < 8)) (if_pos h178)))))).symm
        | exact congrArg (upr sg (mo + 1)) (Eq.trans (if_neg (by decide : ¬ 7 < 2)) (Eq.trans (if_neg (by decide : ¬ 7 < 4)) (Eq.trans (if_neg (by decide : ¬ 7 < 5)) (Eq.trans (if_neg (by decide : ¬ 7 < 7)) (Eq.trans (if_pos (by decide : 7 < 8)) (if_neg h178)))))).symm
    · refine V_aload_n hC kX6_turns_181 rfl ?_
      refine V_iload_n hC kX6_turns_182 rfl ?_
      refine V_bipush hC (6) kX6_turns_183 (by decide) ?_
      refine V_irem hC kX6_turns_185 (by decide) ?_
      refine V_iload_n hC kX6_turns_186 rfl ?_
      refine V_bipush hC (8) kX6_turns_187 (by decide) ?_
      refine V_idiv hC kX6_turns_189 (by decide) ?_
      refine V_bipush hC (61) kX6_turns_190 (by decide) ?_
      refine V_irem hC kX6_turns_192 (by decide) ?_
      refine V_bipush hC (30) kX6_turns_193 (by decide) ?_
      refine V_isub hC kX6_turns_195 ?_
      refine V_cV_fI hC (ct_actsLean hWr _ _ hI.hc4) mkX6_actsLean lmX6_200 kX6_turns_196 (Nat.le_of_ble_eq_true rfl) rfl rfl rfl (Nat.le_of_ble_eq_true rfl) ⟨(Nat.le_of_ble_eq_true rfl), (Nat.le_of_ble_eq_true rfl)⟩ ⟨rfl, rfl⟩ ⟨(Nat.le_of_ble_eq_true rfl), (Nat.le_of_ble_eq_true rfl)⟩ ?_
      refine V_pop hC kX6_turns_199 rfl ?_
      refine V_goto hC 236 kX6_turns_200 (by decide) ?_
      refine V_vret hC rfl kX6_turns_236 ?_
      refine ⟨by with_reducible rfl, ?_⟩
      rw [F_turn, et]
      first
        | exact congrArg (upr sg (mo + 1)) (Eq.trans (if_neg (by decide : ¬ 7 < 2)) (Eq.trans (if_neg (by decide : ¬ 7 < 4)) (Eq.trans (if_neg (by decide : ¬ 7 < 5)) (Eq.trans (if_neg (by decide : ¬ 7 < 7)) (Eq.trans (if_pos (by decide : 7 < 8)) (if_pos h178)))))).symm
        | exact congrArg (upr sg (mo + 1)) (Eq.trans (if_neg (by decide : ¬ 7 < 2)) (Eq.trans (if_neg (by decide : ¬ 7 < 4)) (Eq.trans (if_neg (by decide : ¬ 7 < 5)) (Eq.trans (if_neg (by decide : ¬ 7 < 7)) (Eq.trans (if_pos (by decide : 7 < 8)) (if_neg h178)))))).symm
  · refine V_tabOut hC 225 kX6_turns_9 (Or.inr (by rw [show r - r / 16 * 16 = nI N from ex, nI_toInt (by omega)]; omega)) (by decide) ?_
    refine V_aload_n hC kX6_turns_225 rfl ?_
    refine V_iconst hC (1) kX6_turns_226 (by decide) ?_
    refine V_iload_n hC kX6_turns_227 rfl ?_
    refine V_bipush hC (12) kX6_turns_228 (by decide) ?_
    refine V_irem hC kX6_turns_230 (by decide) ?_
    refine V_iadd hC kX6_turns_231 ?_
    refine V_cV_fI hC (ct_actsTicks hWr _ hI) mkX6_actsTicks lmX6_166 kX6_turns_232 (Nat.le_of_ble_eq_true rfl) rfl rfl rfl (Nat.le_of_ble_eq_true rfl) ⟨(Nat.le_of_ble_eq_true rfl), (Nat.le_of_ble_eq_true rfl)⟩ ⟨rfl, rfl⟩ ⟨(Nat.le_of_ble_eq_true rfl), (Nat.le_of_ble_eq_true rfl)⟩ ?_
    refine V_pop hC kX6_turns_235 rfl ?_
    refine V_vret hC rfl kX6_turns_236 ?_
    refine ⟨by with_reducible rfl, ?_⟩
    rw [F_turn, et]
    exact congrArg (upr sg (mo + 1)) (Eq.trans (if_neg (by omega : ¬ N < 2)) (Eq.trans (if_neg (by omega : ¬ N < 4)) (Eq.trans (if_neg (by omega : ¬ N < 5)) (Eq.trans (if_neg (by omega : ¬ N < 7)) (if_neg (by omega : ¬ N < 8)))))).symm
def mtX6_simulate : Mt := (yX6_simulate, cX6_simulate, 10, (some .int), 10, 229, 0, 0)
theorem kX6_simulate_0 : Dk mtX6_simulate 0 (.aload_n 0) 1 1 := ⟨by decide +kernel, rfl⟩
theorem kX6_simulate_1 : Dk mtX6_simulate 1 (.iconst 0) 1 2 := ⟨by decide +kernel, rfl⟩
theorem kX6_simulate_2 : Dk mtX6_simulate 2 (.putfield 32) 3 5 := ⟨by decide +kernel, rfl⟩
theorem kX6_simulate_5 : Dk mtX6_simulate 5 (.iload_n 3) 1 6 := ⟨by decide +kernel, rfl⟩
theorem kX6_simulate_6 : Dk mtX6_simulate 6 (.iconst 1) 1 7 := ⟨by decide +kernel, rfl⟩
theorem kX6_simulate_7 : Dk mtX6_simulate 7 (.bipush 60) 2 9 := ⟨by decide +kernel, rfl⟩
theorem kX6_simulate_9 : Dk mtX6_simulate 9 (.invokestatic 39) 3 12 := ⟨by decide +kernel, rfl⟩
theorem kX6_simulate_12 : Dk mtX6_simulate 12 (.ifCond .ne 9) 3 15 := ⟨by decide +kernel, rfl⟩
theorem kX6_simulate_15 : Dk mtX6_simulate 15 (.aload_n 0) 1 16 := ⟨by decide +kernel, rfl⟩
theorem kX6_simulate_16 : Dk mtX6_simulate 16 (.iconst 1) 1 17 := ⟨by decide +kernel, rfl⟩
theorem kX6_simulate_17 : Dk mtX6_simulate 17 (.invokevirtual 127) 3 20 := ⟨by decide +kernel, rfl⟩
theorem kX6_simulate_20 : Dk mtX6_simulate 20 (.ireturn) 1 21 := ⟨by decide +kernel, rfl⟩
theorem kX6_simulate_21 : Dk mtX6_simulate 21 (.aload_n 0) 1 22 := ⟨by decide +kernel, rfl⟩
theorem kX6_simulate_22 : Dk mtX6_simulate 22 (.invokevirtual 206) 3 25 := ⟨by decide +kernel, rfl⟩
theorem kX6_simulate_25 : Dk mtX6_simulate 25 (.aload_n 0) 1 26 := ⟨by decide +kernel, rfl⟩
theorem kX6_simulate_26 : Dk mtX6_simulate 26 (.getfield 7) 3 29 := ⟨by decide +kernel, rfl⟩
theorem kX6_simulate_29 : Dk mtX6_simulate 29 (.bipush 7) 2 31 := ⟨by decide +kernel, rfl⟩
theorem kX6_simulate_31 : Dk mtX6_simulate 31 (.iaload) 1 32 := ⟨by decide +kernel, rfl⟩
theorem kX6_simulate_32 : Dk mtX6_simulate 32 (.istore 4) 2 34 := ⟨by decide +kernel, rfl⟩
theorem kX6_simulate_34 : Dk mtX6_simulate 34 (.aload_n 0) 1 35 := ⟨by decide +kernel, rfl⟩
theorem kX6_simulate_35 : Dk mtX6_simulate 35 (.getfield 7) 3 38 := ⟨by decide +kernel, rfl⟩
theorem kX6_simulate_38 : Dk mtX6_simulate 38 (.bipush 8) 2 40 := ⟨by decide +kernel, rfl⟩
theorem kX6_simulate_40 : Dk mtX6_simulate 40 (.iaload) 1 41 := ⟨by decide +kernel, rfl⟩
theorem kX6_simulate_41 : Dk mtX6_simulate 41 (.istore 5) 2 43 := ⟨by decide +kernel, rfl⟩
theorem kX6_simulate_43 : Dk mtX6_simulate 43 (.aload_n 0) 1 44 := ⟨by decide +kernel, rfl⟩
theorem kX6_simulate_44 : Dk mtX6_simulate 44 (.getfield 7) 3 47 := ⟨by decide +kernel, rfl⟩
theorem kX6_simulate_47 : Dk mtX6_simulate 47 (.bipush 10) 2 49 := ⟨by decide +kernel, rfl⟩
theorem kX6_simulate_49 : Dk mtX6_simulate 49 (.iaload) 1 50 := ⟨by decide +kernel, rfl⟩
theorem kX6_simulate_50 : Dk mtX6_simulate 50 (.istore 6) 2 52 := ⟨by decide +kernel, rfl⟩
theorem kX6_simulate_52 : Dk mtX6_simulate 52 (.lload_n 1) 1 53 := ⟨by decide +kernel, rfl⟩
theorem kX6_simulate_53 : Dk mtX6_simulate 53 (.lstore 7) 2 55 := ⟨by decide +kernel, rfl⟩
theorem kX6_simulate_55 : Dk mtX6_simulate 55 (.iconst 0) 1 56 := ⟨by decide +kernel, rfl⟩
theorem kX6_simulate_56 : Dk mtX6_simulate 56 (.istore 9) 2 58 := ⟨by decide +kernel, rfl⟩
theorem kX6_simulate_58 : Dk mtX6_simulate 58 (.iload 9) 2 60 := ⟨by decide +kernel, rfl⟩
theorem kX6_simulate_60 : Dk mtX6_simulate 60 (.iload_n 3) 1 61 := ⟨by decide +kernel, rfl⟩
theorem kX6_simulate_61 : Dk mtX6_simulate 61 (.if_icmp .ge 31) 3 64 := ⟨by decide +kernel, rfl⟩
theorem kX6_simulate_64 : Dk mtX6_simulate 64 (.lload 7) 2 66 := ⟨by decide +kernel, rfl⟩
theorem kX6_simulate_66 : Dk mtX6_simulate 66 (.ldc2_w 230) 3 69 := ⟨by decide +kernel, rfl⟩
theorem kX6_simulate_69 : Dk mtX6_simulate 69 (.lmul) 1 70 := ⟨by decide +kernel, rfl⟩
theorem kX6_simulate_70 : Dk mtX6_simulate 70 (.ldc2_w 232) 3 73 := ⟨by decide +kernel, rfl⟩
theorem kX6_simulate_73 : Dk mtX6_simulate 73 (.ladd) 1 74 := ⟨by decide +kernel, rfl⟩
theorem kX6_simulate_74 : Dk mtX6_simulate 74 (.lstore 7) 2 76 := ⟨by decide +kernel, rfl⟩
theorem kX6_simulate_76 : Dk mtX6_simulate 76 (.aload_n 0) 1 77 := ⟨by decide +kernel, rfl⟩
theorem kX6_simulate_77 : Dk mtX6_simulate 77 (.lload 7) 2 79 := ⟨by decide +kernel, rfl⟩
theorem kX6_simulate_79 : Dk mtX6_simulate 79 (.bipush 33) 2 81 := ⟨by decide +kernel, rfl⟩
theorem kX6_simulate_81 : Dk mtX6_simulate 81 (.lushr) 1 82 := ⟨by decide +kernel, rfl⟩
theorem kX6_simulate_82 : Dk mtX6_simulate 82 (.l2i) 1 83 := ⟨by decide +kernel, rfl⟩
theorem kX6_simulate_83 : Dk mtX6_simulate 83 (.invokevirtual 234) 3 86 := ⟨by decide +kernel, rfl⟩
theorem kX6_simulate_86 : Dk mtX6_simulate 86 (.iinc 9 1) 3 89 := ⟨by decide +kernel, rfl⟩
theorem kX6_simulate_89 : Dk mtX6_simulate 89 (.goto (-31)) 3 92 := ⟨by decide +kernel, rfl⟩
theorem kX6_simulate_92 : Dk mtX6_simulate 92 (.sipush 10000) 3 95 := ⟨by decide +kernel, rfl⟩
theorem kX6_simulate_95 : Dk mtX6_simulate 95 (.aload_n 0) 1 96 := ⟨by decide +kernel, rfl⟩
theorem kX6_simulate_96 : Dk mtX6_simulate 96 (.getfield 7) 3 99 := ⟨by decide +kernel, rfl⟩
theorem kX6_simulate_99 : Dk mtX6_simulate 99 (.bipush 7) 2 101 := ⟨by decide +kernel, rfl⟩
theorem kX6_simulate_101 : Dk mtX6_simulate 101 (.iaload) 1 102 := ⟨by decide +kernel, rfl⟩
theorem kX6_simulate_102 : Dk mtX6_simulate 102 (.iload 4) 2 104 := ⟨by decide +kernel, rfl⟩
theorem kX6_simulate_104 : Dk mtX6_simulate 104 (.isub) 1 105 := ⟨by decide +kernel, rfl⟩
theorem kX6_simulate_105 : Dk mtX6_simulate 105 (.imul) 1 106 := ⟨by decide +kernel, rfl⟩
theorem kX6_simulate_106 : Dk mtX6_simulate 106 (.bipush 100) 2 108 := ⟨by decide +kernel, rfl⟩
theorem kX6_simulate_108 : Dk mtX6_simulate 108 (.aload_n 0) 1 109 := ⟨by decide +kernel, rfl⟩
theorem kX6_simulate_109 : Dk mtX6_simulate 109 (.getfield 7) 3 112 := ⟨by decide +kernel, rfl⟩
theorem kX6_simulate_112 : Dk mtX6_simulate 112 (.bipush 8) 2 114 := ⟨by decide +kernel, rfl⟩
theorem kX6_simulate_114 : Dk mtX6_simulate 114 (.iaload) 1 115 := ⟨by decide +kernel, rfl⟩
theorem kX6_simulate_115 : Dk mtX6_simulate 115 (.iload 5) 2 117 := ⟨by decide +kernel, rfl⟩
theorem kX6_simulate_117 : Dk mtX6_simulate 117 (.isub) 1 118 := ⟨by decide +kernel, rfl⟩
theorem kX6_simulate_118 : Dk mtX6_simulate 118 (.invokestatic 237) 3 121 := ⟨by decide +kernel, rfl⟩
theorem kX6_simulate_121 : Dk mtX6_simulate 121 (.imul) 1 122 := ⟨by decide +kernel, rfl⟩
theorem kX6_simulate_122 : Dk mtX6_simulate 122 (.iadd) 1 123 := ⟨by decide +kernel, rfl⟩
theorem kX6_simulate_123 : Dk mtX6_simulate 123 (.aload_n 0) 1 124 := ⟨by decide +kernel, rfl⟩
theorem kX6_simulate_124 : Dk mtX6_simulate 124 (.getfield 7) 3 127 := ⟨by decide +kernel, rfl⟩
theorem kX6_simulate_127 : Dk mtX6_simulate 127 (.bipush 10) 2 129 := ⟨by decide +kernel, rfl⟩
theorem kX6_simulate_129 : Dk mtX6_simulate 129 (.iaload) 1 130 := ⟨by decide +kernel, rfl⟩
theorem kX6_simulate_130 : Dk mtX6_simulate 130 (.iload 6) 2 132 := ⟨by decide +kernel, rfl⟩
theorem kX6_simulate_132 : Dk mtX6_simulate 132 (.isub) 1 133 := ⟨by decide +kernel, rfl⟩
theorem kX6_simulate_133 : Dk mtX6_simulate 133 (.invokestatic 237) 3 136 := ⟨by decide +kernel, rfl⟩
theorem kX6_simulate_136 : Dk mtX6_simulate 136 (.iadd) 1 137 := ⟨by decide +kernel, rfl⟩
theorem kX6_simulate_137 : Dk mtX6_simulate 137 (.istore 9) 2 139 := ⟨by decide +kernel, rfl⟩
theorem kX6_simulate_139 : Dk mtX6_simulate 139 (.aload_n 0) 1 140 := ⟨by decide +kernel, rfl⟩
theorem kX6_simulate_140 : Dk mtX6_simulate 140 (.invokevirtual 209) 3 143 := ⟨by decide +kernel, rfl⟩
theorem kX6_simulate_143 : Dk mtX6_simulate 143 (.iload 9) 2 145 := ⟨by decide +kernel, rfl⟩
theorem kX6_simulate_145 : Dk mtX6_simulate 145 (.ireturn) 1 146 := ⟨by decide +kernel, rfl⟩
theorem lmX6_237 : LkM RX6 237 mtX6_held := Or.inl (by decide +kernel)
theorem mkX6_held : MkS mtX6_held 1 := ⟨List.mem_of_getElem? (i := 1388) (by decide +kernel), by decide +kernel, by decide +kernel, ⟨by decide +kernel, by decide +kernel, by decide +kernel⟩⟩
theorem lcX6_230 : Cond.constantLong RX6 230 (6364136223846793005) ∈ lw_tbl := by decide +kernel
theorem lcX6_232 : Cond.constantLong RX6 232 (1442695040888963407) ∈ lw_tbl := by decide +kernel
theorem lmX6_234 : LkM RX6 234 mtX6_turns := Or.inl (by decide +kernel)
theorem mkX6_turns : MkV mtX6_turns 1 := ⟨List.mem_of_getElem? (i := 1385) (by decide +kernel), by decide +kernel, by decide +kernel, by decide +kernel, ⟨by decide +kernel, by decide +kernel, by decide +kernel⟩⟩
set_option maxHeartbeats 4000000 in
set_option maxRecDepth 100000 in
theorem ct_simulate {l : Launch} {w : Wd} {sg : Sg} (hWr : Wr w) {mo : Nat} (x : Int64) (a : Int32) (hI : Inv (sg (mo + 1))) : M l mtX6_simulate w [vR (some (6, 0, mo)), vL x, vI a] sg (fM mo sg (K_simulate a) (R_simulate (sg (mo + 1)) x (tn a)) (G_aside sg mo)) := by
  refine M_of [some (vR (some (6, 0, mo))), some (vL x), none, some (vI a), none, none, none, none, none, none] rfl (Nat.le_of_ble_eq_true rfl) (by decide +kernel) ?_
  intro p_ e_ s_ m_ args_ below_ meth_ c_ hC hO
  refine V_aload_n hC kX6_simulate_0 rfl ?_
  refine V_iconst hC (0) kX6_simulate_1 (by decide) ?_
  refine V_putI hC 6 0 lfX6_32 kX6_simulate_2 (Nat.le_of_ble_eq_true rfl) (Nat.le_of_ble_eq_true rfl) rfl rfl ⟨rfl, rfl⟩ ?_
  refine V_nameS (fun sg0 e_sg0 => ?_)
  have hs1 : sg0 (mo + 1) = sg (mo + 1) := by rw [e_sg0]; exact upr_ne _ _ (by omega)
  have hs2 : sg0 (mo + 2) = sg (mo + 2) := by rw [e_sg0]; exact upr_ne _ _ (by omega)
  refine V_iload_n hC kX6_simulate_5 rfl ?_
  refine V_iconst hC (1) kX6_simulate_6 (by decide) ?_
  refine V_bipush hC (60) kX6_simulate_7 (by decide) ?_
  refine V_cS_fI hC (ct_in hWr _ _ _) mkX6_in lmX6_39 kX6_simulate_9 rfl rfl (Nat.le_of_ble_eq_true rfl) ⟨(Nat.le_of_ble_eq_true rfl), (Nat.le_of_ble_eq_true rfl)⟩ ⟨rfl, rfl⟩ ⟨(Nat.le_of_ble_eq_true rfl), (Nat.le_of_ble_eq_true rfl)⟩ ?_
  refine V_if_ne hC 21 kX6_simulate_12 (by decide) (fun h12 => ?_) (fun h12 => ?_)
  · have hp := b01n.mp h12
    obtain ⟨N, hN, -, en, etn⟩ := tn60 (m := 60) rfl hp
    subst en
    refine V_aload_n hC kX6_simulate_21 rfl ?_
    refine V_cV_fV hC (ct_putAside hWr) mkX6_putAside lmX6_206 kX6_simulate_22 (Nat.le_of_ble_eq_true rfl) rfl rfl rfl (Nat.le_of_ble_eq_true rfl) ⟨(Nat.le_of_ble_eq_true rfl), (Nat.le_of_ble_eq_true rfl)⟩ ⟨rfl, rfl⟩ ⟨(Nat.le_of_ble_eq_true rfl), (Nat.le_of_ble_eq_true rfl)⟩ ?_
    have ha1 : G_aside sg0 mo (mo + 1) = sg (mo + 1) := (aside_1 sg0 mo).trans hs1
    refine V_canon (G_aside sg0 mo) (by unfold G_aside; with_reducible rfl) ?_
    refine V_aload_n hC kX6_simulate_25 rfl ?_
    refine V_getR hC hWr 6 1 lfX6_7 kX6_simulate_26 (Nat.le_of_ble_eq_true rfl) (Nat.le_of_ble_eq_true rfl) rfl ?_
    refine V_bipush hC (7) kX6_simulate_29 (by decide) ?_
    refine V_iald hC 7 rfl kX6_simulate_31 (vp_lit rfl) ?_
    refine V_nameI (fun hd e_hd => ?_)
    refine V_istore hC [some _, some _, none, some _, some _, none, none, none, none, none] kX6_simulate_32 rfl (Nat.le_of_ble_eq_true rfl) ?_
    refine V_aload_n hC kX6_simulate_34 rfl ?_
    refine V_getR hC hWr 6 1 lfX6_7 kX6_simulate_35 (Nat.le_of_ble_eq_true rfl) (Nat.le_of_ble_eq_true rfl) rfl ?_
    refine V_bipush hC (8) kX6_simulate_38 (by decide) ?_
    refine V_iald hC 8 rfl kX6_simulate_40 (vp_lit rfl) ?_
    refine V_nameI (fun bk e_bk => ?_)
    refine V_istore hC [some _, some _, none, some _, some _, some _, none, none, none, none] kX6_simulate_41 rfl (Nat.le_of_ble_eq_true rfl) ?_
    refine V_aload_n hC kX6_simulate_43 rfl ?_
    refine V_getR hC hWr 6 1 lfX6_7 kX6_simulate_44 (Nat.le_of_ble_eq_true rfl) (Nat.le_of_ble_eq_true rfl) rfl ?_
    refine V_bipush hC (10) kX6_simulate_47 (by decide) ?_
    refine V_iald hC 10 rfl kX6_simulate_49 (vp_lit rfl) ?_
    refine V_nameI (fun ls e_ls => ?_)
    refine V_istore hC [some _, some _, none, some _, some _, some _, some _, none, none, none] kX6_simulate_50 rfl (Nat.le_of_ble_eq_true rfl) ?_
    refine V_lload_n hC kX6_simulate_52 rfl ?_
    refine V_lstore hC [some _, some _, none, some _, some _, some _, some _, some _, none, none] kX6_simulate_53 rfl (Nat.le_of_ble_eq_true rfl) ?_
    refine V_iconst hC (0) kX6_simulate_55 (by decide) ?_
    refine V_istore hC [some _, some _, none, some _, some _, some _, some _, some _, none, some _] kX6_simulate_56 rfl (Nat.le_of_ble_eq_true rfl) ?_
    refine V_canon (upr (G_aside sg0 mo) (mo + 1) (F_simG (sg (mo + 1)) x 0)) (by rw [F_simG, ← ha1, upr_self]) ?_
    refine V_loop N (fun i => [some (vR (some (6, 0, mo))), some (vL x), none, some (vI (nI N)), some (vI hd), some (vI bk), some (vI ls), some (vL (F_simX x i)), none, some (vI (nI i))]) (fun i => upr (G_aside sg0 mo) (mo + 1) (F_simG (sg (mo + 1)) x i)) rfl rfl ?_ (fun i hi ihi => ?_)
    · refine V_iload hC kX6_simulate_58 rfl ?_
      refine V_iload_n hC kX6_simulate_60 rfl ?_
      refine V_icmp_ge hC 92 kX6_simulate_61 (by decide) (fun h61 => ?_) (fun h61 => absurd h61 (not_not_intro (Int32.le_refl _)))
      refine V_sipush hC (10000) kX6_simulate_92 (by decide) ?_
      refine V_aload_n hC kX6_simulate_95 rfl ?_
      refine V_getR hC hWr 6 1 lfX6_7 kX6_simulate_96 (Nat.le_of_ble_eq_true rfl) (Nat.le_of_ble_eq_true rfl) rfl ?_
      refine V_bipush hC (7) kX6_simulate_99 (by decide) ?_
      refine V_iald hC 7 rfl kX6_simulate_101 (vp_lit rfl) ?_
      refine V_iload hC kX6_simulate_102 rfl ?_
      refine V_isub hC kX6_simulate_104 ?_
      refine V_imul hC kX6_simulate_105 ?_
      refine V_bipush hC (100) kX6_simulate_106 (by decide) ?_
      refine V_aload_n hC kX6_simulate_108 rfl ?_
      refine V_getR hC hWr 6 1 lfX6_7 kX6_simulate_109 (Nat.le_of_ble_eq_true rfl) (Nat.le_of_ble_eq_true rfl) rfl ?_
      refine V_bipush hC (8) kX6_simulate_112 (by decide) ?_
      refine V_iald hC 8 rfl kX6_simulate_114 (vp_lit rfl) ?_
      refine V_iload hC kX6_simulate_115 rfl ?_
      refine V_isub hC kX6_simulate_117 ?_
      refine V_cS_fI hC (ct_held hWr _) mkX6_held lmX6_237 kX6_simulate_118 rfl rfl (Nat.le_of_ble_eq_true rfl) ⟨(Nat.le_of_ble_eq_true rfl), (Nat.le_of_ble_eq_true rfl)⟩ ⟨rfl, rfl⟩ ⟨(Nat.le_of_ble_eq_true rfl), (Nat.le_of_ble_eq_true rfl)⟩ ?_
      refine V_imul hC kX6_simulate_121 ?_
      refine V_iadd hC kX6_simulate_122 ?_
      refine V_aload_n hC kX6_simulate_123 rfl ?_
      refine V_getR hC hWr 6 1 lfX6_7 kX6_simulate_124 (Nat.le_of_ble_eq_true rfl) (Nat.le_of_ble_eq_true rfl) rfl ?_
      refine V_bipush hC (10) kX6_simulate_127 (by decide) ?_
      refine V_iald hC 10 rfl kX6_simulate_129 (vp_lit rfl) ?_
      refine V_iload hC kX6_simulate_130 rfl ?_
      refine V_isub hC kX6_simulate_132 ?_
      refine V_cS_fI hC (ct_held hWr _) mkX6_held lmX6_237 kX6_simulate_133 rfl rfl (Nat.le_of_ble_eq_true rfl) ⟨(Nat.le_of_ble_eq_true rfl), (Nat.le_of_ble_eq_true rfl)⟩ ⟨rfl, rfl⟩ ⟨(Nat.le_of_ble_eq_true rfl), (Nat.le_of_ble_eq_true rfl)⟩ ?_
      refine V_iadd hC kX6_simulate_136 ?_
      refine V_nameI (fun its e_its => ?_)
      refine V_istore hC [some _, some _, none, some _, some _, some _, some _, some _, none, some _] kX6_simulate_137 rfl (Nat.le_of_ble_eq_true rfl) ?_
      refine V_aload_n hC kX6_simulate_139 rfl ?_
      refine V_cV_fV hC (ct_takeBack hWr) mkX6_takeBack lmX6_209 kX6_simulate_140 (Nat.le_of_ble_eq_true rfl) rfl rfl rfl (Nat.le_of_ble_eq_true rfl) ⟨(Nat.le_of_ble_eq_true rfl), (Nat.le_of_ble_eq_true rfl)⟩ ⟨rfl, rfl⟩ ⟨(Nat.le_of_ble_eq_true rfl), (Nat.le_of_ble_eq_true rfl)⟩ ?_
      refine V_iload hC kX6_simulate_143 rfl ?_
      refine V_ireti hC rfl kX6_simulate_145 ?_
      refine fM_ok (by rw [K_simulate, if_pos hp]) ?_ ?_
      · rw [e_its, e_hd, e_bk, e_ls, upr_at, ha1, etn]; rfl
      · simp only [upr_at, upr_upr]
        have h2 : upr (G_aside sg0 mo) (mo + 1) (F_simG (sg (mo + 1)) x N) (mo + 2) = G_aside sg0 mo (mo + 2) := upr_ne _ _ (by omega)
        have hb : cpy (G_aside sg0 mo (mo + 2)) (F_simG (sg (mo + 1)) x N) 140 = sg (mo + 1) := by
          unfold G_aside
          rw [upr_at, hs1]
          exact back_eq (fun z hz => (Inv_simG hI x N).2 z hz)
        rw [h2, hb, ← ha1, upr_self]
        unfold G_aside
        rw [hs1, hs2, e_sg0, ups_upr _ _ _ _ (by omega)]
    · refine V_iload hC kX6_simulate_58 rfl ?_
      refine V_iload_n hC kX6_simulate_60 rfl ?_
      refine V_icmp_ge hC 92 kX6_simulate_61 (by decide) (fun h61 => absurd h61 (nI_ge hi (by omega))) (fun h61 => ?_)
      refine V_lload hC kX6_simulate_64 rfl ?_
      refine V_ldc2 hC lcX6_230 kX6_simulate_66 ?_
      refine V_lmul hC kX6_simulate_69 ?_
      refine V_ldc2 hC lcX6_232 kX6_simulate_70 ?_
      refine V_ladd hC kX6_simulate_73 ?_
      refine V_lstore hC [some _, some _, none, some _, some _, some _, some _, some _, none, some _] kX6_simulate_74 rfl (Nat.le_of_ble_eq_true rfl) ?_
      refine V_aload_n hC kX6_simulate_76 rfl ?_
      refine V_lload hC kX6_simulate_77 rfl ?_
      refine V_bipush hC (33) kX6_simulate_79 (by decide) ?_
      refine V_lushr hC kX6_simulate_81 ?_
      refine V_l2i hC kX6_simulate_82 ?_
      refine V_cV_fV hC (ct_turns hWr _ (simR_pos (F_simX x (i + 1))) (by rw [upr_at]; exact (Inv_simG hI x i).1)) mkX6_turns lmX6_234 kX6_simulate_83 (Nat.le_of_ble_eq_true rfl) rfl rfl rfl (Nat.le_of_ble_eq_true rfl) ⟨(Nat.le_of_ble_eq_true rfl), (Nat.le_of_ble_eq_true rfl)⟩ ⟨rfl, rfl⟩ ⟨(Nat.le_of_ble_eq_true rfl), (Nat.le_of_ble_eq_true rfl)⟩ ?_
      refine V_iinc hC (_ + 1) [some _, some _, none, some _, some _, some _, some _, some _, none, some _] kX6_simulate_86 rfl rfl rfl (Nat.le_of_ble_eq_true rfl) ?_
      refine V_goto hC 58 kX6_simulate_89 (by decide) ?_
      refine V_eq ?_ ?_ ihi
      · simp only [nI_succ, F_simX]
      · rw [upr_at, upr_upr]; rfl
  · refine V_aload_n hC kX6_simulate_15 rfl ?_
    refine V_iconst hC (1) kX6_simulate_16 (by decide) ?_
    refine V_cV_fI hC (ct_fails hWr 1) mkX6_fails lmX6_127 kX6_simulate_17 (Nat.le_of_ble_eq_true rfl) rfl rfl rfl (Nat.le_of_ble_eq_true rfl) ⟨(Nat.le_of_ble_eq_true rfl), (Nat.le_of_ble_eq_true rfl)⟩ ⟨rfl, rfl⟩ ⟨(Nat.le_of_ble_eq_true rfl), (Nat.le_of_ble_eq_true rfl)⟩ ?_
    refine V_ireti hC rfl kX6_simulate_20 ?_
    exact fM_no 1 (by rw [K_simulate, if_neg (b01e.mp h12)]) (by decide) (by rw [e_sg0, ups_ups])
