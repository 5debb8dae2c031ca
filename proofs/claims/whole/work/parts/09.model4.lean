-- HOW ct_in fI
-- HOW ct_fails fI
-- HOW ct_of fI
-- HOW ct_ofBoat fI
-- HOW ct_layBoat fV
-- HOW ct_isLight fI
-- HOW ct_isBoat fI
-- HOW ct_isPlace fI
-- HOW ct_bright fI
-- HOW ct_worth fI
-- HOW ct_serves fI
-- HOW ct_best fI
-- HOW ct_sails fV
-- HOW ct_drops fV
-- HOW ct_wished fI
-- HOW ct_hands fV
-- HOW ct_wishes fV
-- HOW ct_finds fV
-- HOW ct_goesOn fV
-- HOW ct_goesTick fV
-- HOW ct_goesBy fI
-- HOW ct_putAside fV
-- HOW ct_takeBack fV
-- HOW ct_isLamp fI
-- HOW ct_addsLight fI
-- HOW ct_actsLight fI
-- HOW ct_addsBoat fI
-- HOW ct_actsBoat fI
-- HOW ct_actsSteer fI
-- HOW ct_canTalk fI
-- HOW ct_actsTalk fI
-- HOW ct_actsLean fI
-- HOW ct_actsDim fI
-- HOW ct_mostOf fI
-- HOW ct_isSetting fI
-- HOW ct_actsSet fI
-- HOW ct_actsTicks fI
-- HOW ct_boatsThat fI
-- HOW ct_servedBy fI
-- HOW ct_begins fV
-- HOW ct_tellsAbout fI
-- HOW ct_about fM
-- HOW ct_lightOf fM
-- HOW ct_boatOf fM
-- HOW ct_brightness fM
-- HOW ct_bestAt fM
-- HOW ct_setting fM
/-! the reference: what there is -/
def mtX6_begins : Mt := (yX6_begins, cX6_begins, 2, none, 0, 0, 0, 0)
theorem kX6_begins_0 : Dk mtX6_begins 0 (.iconst 0) 1 1 := ⟨by decide +kernel, rfl⟩
theorem kX6_begins_1 : Dk mtX6_begins 1 (.istore_n 1) 1 2 := ⟨by decide +kernel, rfl⟩
theorem kX6_begins_2 : Dk mtX6_begins 2 (.iload_n 1) 1 3 := ⟨by decide +kernel, rfl⟩
theorem kX6_begins_3 : Dk mtX6_begins 3 (.sipush 140) 3 6 := ⟨by decide +kernel, rfl⟩
theorem kX6_begins_6 : Dk mtX6_begins 6 (.if_icmp .ge 16) 3 9 := ⟨by decide +kernel, rfl⟩
theorem kX6_begins_9 : Dk mtX6_begins 9 (.aload_n 0) 1 10 := ⟨by decide +kernel, rfl⟩
theorem kX6_begins_10 : Dk mtX6_begins 10 (.getfield 7) 3 13 := ⟨by decide +kernel, rfl⟩
theorem kX6_begins_13 : Dk mtX6_begins 13 (.iload_n 1) 1 14 := ⟨by decide +kernel, rfl⟩
theorem kX6_begins_14 : Dk mtX6_begins 14 (.iconst 0) 1 15 := ⟨by decide +kernel, rfl⟩
theorem kX6_begins_15 : Dk mtX6_begins 15 (.iastore) 1 16 := ⟨by decide +kernel, rfl⟩
theorem kX6_begins_16 : Dk mtX6_begins 16 (.iinc 1 1) 3 19 := ⟨by decide +kernel, rfl⟩
theorem kX6_begins_19 : Dk mtX6_begins 19 (.goto (-17)) 3 22 := ⟨by decide +kernel, rfl⟩
theorem kX6_begins_22 : Dk mtX6_begins 22 (.aload_n 0) 1 23 := ⟨by decide +kernel, rfl⟩
theorem kX6_begins_23 : Dk mtX6_begins 23 (.getfield 7) 3 26 := ⟨by decide +kernel, rfl⟩
theorem kX6_begins_26 : Dk mtX6_begins 26 (.iconst 0) 1 27 := ⟨by decide +kernel, rfl⟩
theorem kX6_begins_27 : Dk mtX6_begins 27 (.bipush 10) 2 29 := ⟨by decide +kernel, rfl⟩
theorem kX6_begins_29 : Dk mtX6_begins 29 (.iastore) 1 30 := ⟨by decide +kernel, rfl⟩
theorem kX6_begins_30 : Dk mtX6_begins 30 (.aload_n 0) 1 31 := ⟨by decide +kernel, rfl⟩
theorem kX6_begins_31 : Dk mtX6_begins 31 (.getfield 7) 3 34 := ⟨by decide +kernel, rfl⟩
theorem kX6_begins_34 : Dk mtX6_begins 34 (.iconst 1) 1 35 := ⟨by decide +kernel, rfl⟩
theorem kX6_begins_35 : Dk mtX6_begins 35 (.iconst 3) 1 36 := ⟨by decide +kernel, rfl⟩
theorem kX6_begins_36 : Dk mtX6_begins 36 (.iastore) 1 37 := ⟨by decide +kernel, rfl⟩
theorem kX6_begins_37 : Dk mtX6_begins 37 (.aload_n 0) 1 38 := ⟨by decide +kernel, rfl⟩
theorem kX6_begins_38 : Dk mtX6_begins 38 (.getfield 7) 3 41 := ⟨by decide +kernel, rfl⟩
theorem kX6_begins_41 : Dk mtX6_begins 41 (.iconst 2) 1 42 := ⟨by decide +kernel, rfl⟩
theorem kX6_begins_42 : Dk mtX6_begins 42 (.bipush 60) 2 44 := ⟨by decide +kernel, rfl⟩
theorem kX6_begins_44 : Dk mtX6_begins 44 (.iastore) 1 45 := ⟨by decide +kernel, rfl⟩
theorem kX6_begins_45 : Dk mtX6_begins 45 (.aload_n 0) 1 46 := ⟨by decide +kernel, rfl⟩
theorem kX6_begins_46 : Dk mtX6_begins 46 (.getfield 7) 3 49 := ⟨by decide +kernel, rfl⟩
theorem kX6_begins_49 : Dk mtX6_begins 49 (.iconst 3) 1 50 := ⟨by decide +kernel, rfl⟩
theorem kX6_begins_50 : Dk mtX6_begins 50 (.bipush 12) 2 52 := ⟨by decide +kernel, rfl⟩
theorem kX6_begins_52 : Dk mtX6_begins 52 (.iastore) 1 53 := ⟨by decide +kernel, rfl⟩
theorem kX6_begins_53 : Dk mtX6_begins 53 (.return_) 1 54 := ⟨by decide +kernel, rfl⟩
set_option maxHeartbeats 4000000 in
set_option maxRecDepth 100000 in
theorem ct_begins {l : Launch} {w : Wd} {sg : Sg} (hWr : Wr w) {mo : Nat} : M l mtX6_begins w [vR (some (6, 0, mo))] sg (fV0 (upr sg (mo + 1) (F_begins (sg (mo + 1))))) := by
  refine M_of [some (vR (some (6, 0, mo))), none] rfl (Nat.le_of_ble_eq_true rfl) (by decide +kernel) ?_
  intro p_ e_ s_ m_ args_ below_ meth_ c_ hC hO
  refine V_iconst hC (0) kX6_begins_0 (by decide) ?_
  refine V_istore_n hC [some _, some _] kX6_begins_1 rfl (Nat.le_of_ble_eq_true rfl) ?_
  refine V_canon (upr sg (mo + 1) (cpy (fun _ => 0) (sg (mo + 1)) 0)) (by rw [cpy_0, upr_self]) ?_
  refine V_loop 140 (fun i => [some (vR (some (6, 0, mo))), some (vI (nI i))]) (fun i => upr sg (mo + 1) (cpy (fun _ => 0) (sg (mo + 1)) i)) rfl rfl ?_ (fun i hi ihi => ?_)
  · refine V_iload_n hC kX6_begins_2 rfl ?_
    refine V_sipush hC (140) kX6_begins_3 (by decide) ?_
    refine V_icmp_ge hC 22 kX6_begins_6 (by decide) (fun h6 => ?_) (fun h6 => absurd h6 (not_not_intro (nI_lit rfl)))
    refine V_aload_n hC kX6_begins_22 rfl ?_
    refine V_getR hC hWr 6 1 lfX6_7 kX6_begins_23 (Nat.le_of_ble_eq_true rfl) (Nat.le_of_ble_eq_true rfl) rfl ?_
    refine V_iconst hC (0) kX6_begins_26 (by decide) ?_
    refine V_bipush hC (10) kX6_begins_27 (by decide) ?_
    refine V_iast hC 0 rfl kX6_begins_29 (vp_lit rfl) ?_
    refine V_aload_n hC kX6_begins_30 rfl ?_
    refine V_getR hC hWr 6 1 lfX6_7 kX6_begins_31 (Nat.le_of_ble_eq_true rfl) (Nat.le_of_ble_eq_true rfl) rfl ?_
    refine V_iconst hC (1) kX6_begins_34 (by decide) ?_
    refine V_iconst hC (3) kX6_begins_35 (by decide) ?_
    refine V_iast hC 1 rfl kX6_begins_36 (vp_lit rfl) ?_
    refine V_aload_n hC kX6_begins_37 rfl ?_
    refine V_getR hC hWr 6 1 lfX6_7 kX6_begins_38 (Nat.le_of_ble_eq_true rfl) (Nat.le_of_ble_eq_true rfl) rfl ?_
    refine V_iconst hC (2) kX6_begins_41 (by decide) ?_
    refine V_bipush hC (60) kX6_begins_42 (by decide) ?_
    refine V_iast hC 2 rfl kX6_begins_44 (vp_lit rfl) ?_
    refine V_aload_n hC kX6_begins_45 rfl ?_
    refine V_getR hC hWr 6 1 lfX6_7 kX6_begins_46 (Nat.le_of_ble_eq_true rfl) (Nat.le_of_ble_eq_true rfl) rfl ?_
    refine V_iconst hC (3) kX6_begins_49 (by decide) ?_
    refine V_bipush hC (12) kX6_begins_50 (by decide) ?_
    refine V_iast hC 3 rfl kX6_begins_52 (vp_lit rfl) ?_
    refine V_vret hC rfl kX6_begins_53 ?_
    refine ⟨by with_reducible rfl, ?_⟩
    simp only [upr_upr, upr_at, ups, F_begins]
  · refine V_iload_n hC kX6_begins_2 rfl ?_
    refine V_sipush hC (140) kX6_begins_3 (by decide) ?_
    refine V_icmp_ge hC 22 kX6_begins_6 (by decide) (fun h6 => absurd h6 (by exact nI_ge (b := 140) hi (by decide))) (fun h6 => ?_)
    refine V_aload_n hC kX6_begins_9 rfl ?_
    refine V_getR hC hWr 6 1 lfX6_7 kX6_begins_10 (Nat.le_of_ble_eq_true rfl) (Nat.le_of_ble_eq_true rfl) rfl ?_
    refine V_iload_n hC kX6_begins_13 rfl ?_
    refine V_iconst hC (0) kX6_begins_14 (by decide) ?_
    refine V_iast hC i (nI_clamp (by omega)) kX6_begins_15 (vp_in_nI hi (by decide)) ?_
    refine V_iinc hC (_ + 1) [some _, some _] kX6_begins_16 rfl rfl rfl (Nat.le_of_ble_eq_true rfl) ?_
    refine V_goto hC 2 kX6_begins_19 (by decide) ?_
    refine V_eq (by rw [nI_succ]) ?_ ihi
    unfold ups
    rw [upr_at, upr_upr]
    exact congrArg _ (cpy_s (fun _ => 0) _ i)
def mtX6_tellsAbout : Mt := (yX6_tellsAbout, cX6_tellsAbout, 2, (some .int), 2, 45, 0, 0)
theorem kX6_tellsAbout_0 : Dk mtX6_tellsAbout 0 (.iload_n 1) 1 1 := ⟨by decide +kernel, rfl⟩
theorem kX6_tellsAbout_1 : Dk mtX6_tellsAbout 1 (.tableswitch 52 0 4 #[35, 35, 35, 44, 44]) 35 36 := ⟨by decide +kernel, rfl⟩
theorem kX6_tellsAbout_36 : Dk mtX6_tellsAbout 36 (.aload_n 0) 1 37 := ⟨by decide +kernel, rfl⟩
theorem kX6_tellsAbout_37 : Dk mtX6_tellsAbout 37 (.getfield 7) 3 40 := ⟨by decide +kernel, rfl⟩
theorem kX6_tellsAbout_40 : Dk mtX6_tellsAbout 40 (.iconst 4) 1 41 := ⟨by decide +kernel, rfl⟩
theorem kX6_tellsAbout_41 : Dk mtX6_tellsAbout 41 (.iload_n 1) 1 42 := ⟨by decide +kernel, rfl⟩
theorem kX6_tellsAbout_42 : Dk mtX6_tellsAbout 42 (.iadd) 1 43 := ⟨by decide +kernel, rfl⟩
theorem kX6_tellsAbout_43 : Dk mtX6_tellsAbout 43 (.iaload) 1 44 := ⟨by decide +kernel, rfl⟩
theorem kX6_tellsAbout_44 : Dk mtX6_tellsAbout 44 (.ireturn) 1 45 := ⟨by decide +kernel, rfl⟩
theorem kX6_tellsAbout_45 : Dk mtX6_tellsAbout 45 (.aload_n 0) 1 46 := ⟨by decide +kernel, rfl⟩
theorem kX6_tellsAbout_46 : Dk mtX6_tellsAbout 46 (.iload_n 1) 1 47 := ⟨by decide +kernel, rfl⟩
theorem kX6_tellsAbout_47 : Dk mtX6_tellsAbout 47 (.iconst 3) 1 48 := ⟨by decide +kernel, rfl⟩
theorem kX6_tellsAbout_48 : Dk mtX6_tellsAbout 48 (.isub) 1 49 := ⟨by decide +kernel, rfl⟩
theorem kX6_tellsAbout_49 : Dk mtX6_tellsAbout 49 (.invokevirtual 185) 3 52 := ⟨by decide +kernel, rfl⟩
theorem kX6_tellsAbout_52 : Dk mtX6_tellsAbout 52 (.ireturn) 1 53 := ⟨by decide +kernel, rfl⟩
theorem kX6_tellsAbout_53 : Dk mtX6_tellsAbout 53 (.aload_n 0) 1 54 := ⟨by decide +kernel, rfl⟩
theorem kX6_tellsAbout_54 : Dk mtX6_tellsAbout 54 (.getfield 7) 3 57 := ⟨by decide +kernel, rfl⟩
theorem kX6_tellsAbout_57 : Dk mtX6_tellsAbout 57 (.bipush 7) 2 59 := ⟨by decide +kernel, rfl⟩
theorem kX6_tellsAbout_59 : Dk mtX6_tellsAbout 59 (.iload_n 1) 1 60 := ⟨by decide +kernel, rfl⟩
theorem kX6_tellsAbout_60 : Dk mtX6_tellsAbout 60 (.iadd) 1 61 := ⟨by decide +kernel, rfl⟩
theorem kX6_tellsAbout_61 : Dk mtX6_tellsAbout 61 (.iconst 5) 1 62 := ⟨by decide +kernel, rfl⟩
theorem kX6_tellsAbout_62 : Dk mtX6_tellsAbout 62 (.isub) 1 63 := ⟨by decide +kernel, rfl⟩
theorem kX6_tellsAbout_63 : Dk mtX6_tellsAbout 63 (.iaload) 1 64 := ⟨by decide +kernel, rfl⟩
theorem kX6_tellsAbout_64 : Dk mtX6_tellsAbout 64 (.ireturn) 1 65 := ⟨by decide +kernel, rfl⟩
theorem lmX6_185 : LkM RX6 185 mtX6_boatsThat := Or.inl (by decide +kernel)
theorem mkX6_boatsThat : MkV mtX6_boatsThat 1 := ⟨List.mem_of_getElem? (i := 1241) (by decide +kernel), by decide +kernel, by decide +kernel, by decide +kernel, ⟨by decide +kernel, by decide +kernel, by decide +kernel⟩⟩
set_option maxHeartbeats 4000000 in
set_option maxRecDepth 100000 in
theorem ct_tellsAbout {l : Launch} {w : Wd} {sg : Sg} (hWr : Wr w) {mo : Nat} (a : Int32) (ha : inn a 0 9) (hI : Inv (sg (mo + 1))) : M l mtX6_tellsAbout w [vR (some (6, 0, mo)), vI a] sg (fI (F_tells (sg (mo + 1)) a) sg) := by
  refine M_of [some (vR (some (6, 0, mo))), some (vI a)] rfl (Nat.le_of_ble_eq_true rfl) (by decide +kernel) ?_
  intro p_ e_ s_ m_ args_ below_ meth_ c_ hC hO
  obtain ⟨N, hN, ea⟩ : ∃ N, N < 10 ∧ a = nI N := vp_in_of (inn_vp (by decide) ha) (by decide)
  subst ea
  rcases (show N = 0 ∨ N = 1 ∨ N = 2 ∨ N = 3 ∨ N = 4 ∨ N = 5 ∨ N = 6 ∨ N = 7 ∨ N = 8 ∨ N = 9 by omega) with e | e | e | e | e | e | e | e | e | e <;> subst e
  · refine V_iload_n hC kX6_tellsAbout_0 rfl ?_
    refine V_tabIn hC (35) 36 kX6_tellsAbout_1 (by decide) (by decide) rfl (by decide) ?_
    refine V_aload_n hC kX6_tellsAbout_36 rfl ?_
    refine V_getR hC hWr 6 1 lfX6_7 kX6_tellsAbout_37 (Nat.le_of_ble_eq_true rfl) (Nat.le_of_ble_eq_true rfl) rfl ?_
    refine V_iconst hC (4) kX6_tellsAbout_40 (by decide) ?_
    refine V_iload_n hC kX6_tellsAbout_41 rfl ?_
    refine V_iadd hC kX6_tellsAbout_42 ?_
    refine V_iald hC 4 rfl kX6_tellsAbout_43 (vp_lit rfl) ?_
    refine V_ireti hC rfl kX6_tellsAbout_44 ?_
    exact ⟨cI (by unfold F_tells; rfl), by with_reducible rfl⟩
  · refine V_iload_n hC kX6_tellsAbout_0 rfl ?_
    refine V_tabIn hC (35) 36 kX6_tellsAbout_1 (by decide) (by decide) rfl (by decide) ?_
    refine V_aload_n hC kX6_tellsAbout_36 rfl ?_
    refine V_getR hC hWr 6 1 lfX6_7 kX6_tellsAbout_37 (Nat.le_of_ble_eq_true rfl) (Nat.le_of_ble_eq_true rfl) rfl ?_
    refine V_iconst hC (4) kX6_tellsAbout_40 (by decide) ?_
    refine V_iload_n hC kX6_tellsAbout_41 rfl ?_
    refine V_iadd hC kX6_tellsAbout_42 ?_
    refine V_iald hC 5 rfl kX6_tellsAbout_43 (vp_lit rfl) ?_
    refine V_ireti hC rfl kX6_tellsAbout_44 ?_
    exact ⟨cI (by unfold F_tells; rfl), by with_reducible rfl⟩
  · refine V_iload_n hC kX6_tellsAbout_0 rfl ?_
    refine V_tabIn hC (35) 36 kX6_tellsAbout_1 (by decide) (by decide) rfl (by decide) ?_
    refine V_aload_n hC kX6_tellsAbout_36 rfl ?_
    refine V_getR hC hWr 6 1 lfX6_7 kX6_tellsAbout_37 (Nat.le_of_ble_eq_true rfl) (Nat.le_of_ble_eq_true rfl) rfl ?_
    refine V_iconst hC (4) kX6_tellsAbout_40 (by decide) ?_
    refine V_iload_n hC kX6_tellsAbout_41 rfl ?_
    refine V_iadd hC kX6_tellsAbout_42 ?_
    refine V_iald hC 6 rfl kX6_tellsAbout_43 (vp_lit rfl) ?_
    refine V_ireti hC rfl kX6_tellsAbout_44 ?_
    exact ⟨cI (by unfold F_tells; rfl), by with_reducible rfl⟩
  · refine V_iload_n hC kX6_tellsAbout_0 rfl ?_
    refine V_tabIn hC (44) 45 kX6_tellsAbout_1 (by decide) (by decide) rfl (by decide) ?_
    refine V_aload_n hC kX6_tellsAbout_45 rfl ?_
    refine V_iload_n hC kX6_tellsAbout_46 rfl ?_
    refine V_iconst hC (3) kX6_tellsAbout_47 (by decide) ?_
    refine V_isub hC kX6_tellsAbout_48 ?_
    refine V_cV_fI hC (ct_boatsThat hWr _ hI.hc5) mkX6_boatsThat lmX6_185 kX6_tellsAbout_49 (Nat.le_of_ble_eq_true rfl) rfl rfl rfl (Nat.le_of_ble_eq_true rfl) ⟨(Nat.le_of_ble_eq_true rfl), (Nat.le_of_ble_eq_true rfl)⟩ ⟨rfl, rfl⟩ ⟨(Nat.le_of_ble_eq_true rfl), (Nat.le_of_ble_eq_true rfl)⟩ ?_
    refine V_ireti hC rfl kX6_tellsAbout_52 ?_
    exact ⟨cI (by unfold F_tells; rfl), by with_reducible rfl⟩
  · refine V_iload_n hC kX6_tellsAbout_0 rfl ?_
    refine V_tabIn hC (44) 45 kX6_tellsAbout_1 (by decide) (by decide) rfl (by decide) ?_
    refine V_aload_n hC kX6_tellsAbout_45 rfl ?_
    refine V_iload_n hC kX6_tellsAbout_46 rfl ?_
    refine V_iconst hC (3) kX6_tellsAbout_47 (by decide) ?_
    refine V_isub hC kX6_tellsAbout_48 ?_
    refine V_cV_fI hC (ct_boatsThat hWr _ hI.hc5) mkX6_boatsThat lmX6_185 kX6_tellsAbout_49 (Nat.le_of_ble_eq_true rfl) rfl rfl rfl (Nat.le_of_ble_eq_true rfl) ⟨(Nat.le_of_ble_eq_true rfl), (Nat.le_of_ble_eq_true rfl)⟩ ⟨rfl, rfl⟩ ⟨(Nat.le_of_ble_eq_true rfl), (Nat.le_of_ble_eq_true rfl)⟩ ?_
    refine V_ireti hC rfl kX6_tellsAbout_52 ?_
    exact ⟨cI (by unfold F_tells; rfl), by with_reducible rfl⟩
  · refine V_iload_n hC kX6_tellsAbout_0 rfl ?_
    refine V_tabOut hC 53 kX6_tellsAbout_1 (by decide) (by decide) ?_
    refine V_aload_n hC kX6_tellsAbout_53 rfl ?_
    refine V_getR hC hWr 6 1 lfX6_7 kX6_tellsAbout_54 (Nat.le_of_ble_eq_true rfl) (Nat.le_of_ble_eq_true rfl) rfl ?_
    refine V_bipush hC (7) kX6_tellsAbout_57 (by decide) ?_
    refine V_iload_n hC kX6_tellsAbout_59 rfl ?_
    refine V_iadd hC kX6_tellsAbout_60 ?_
    refine V_iconst hC (5) kX6_tellsAbout_61 (by decide) ?_
    refine V_isub hC kX6_tellsAbout_62 ?_
    refine V_iald hC 7 rfl kX6_tellsAbout_63 (vp_lit rfl) ?_
    refine V_ireti hC rfl kX6_tellsAbout_64 ?_
    exact ⟨cI (by unfold F_tells; rfl), by with_reducible rfl⟩
  · refine V_iload_n hC kX6_tellsAbout_0 rfl ?_
    refine V_tabOut hC 53 kX6_tellsAbout_1 (by decide) (by decide) ?_
    refine V_aload_n hC kX6_tellsAbout_53 rfl ?_
    refine V_getR hC hWr 6 1 lfX6_7 kX6_tellsAbout_54 (Nat.le_of_ble_eq_true rfl) (Nat.le_of_ble_eq_true rfl) rfl ?_
    refine V_bipush hC (7) kX6_tellsAbout_57 (by decide) ?_
    refine V_iload_n hC kX6_tellsAbout_59 rfl ?_
    refine V_iadd hC kX6_tellsAbout_60 ?_
    refine V_iconst hC (5) kX6_tellsAbout_61 (by decide) ?_
    refine V_isub hC kX6_tellsAbout_62 ?_
    refine V_iald hC 8 rfl kX6_tellsAbout_63 (vp_lit rfl) ?_
    refine V_ireti hC rfl kX6_tellsAbout_64 ?_
    exact ⟨cI (by unfold F_tells; rfl), by with_reducible rfl⟩
  · refine V_iload_n hC kX6_tellsAbout_0 rfl ?_
    refine V_tabOut hC 53 kX6_tellsAbout_1 (by decide) (by decide) ?_
    refine V_aload_n hC kX6_tellsAbout_53 rfl ?_
    refine V_getR hC hWr 6 1 lfX6_7 kX6_tellsAbout_54 (Nat.le_of_ble_eq_true rfl) (Nat.le_of_ble_eq_true rfl) rfl ?_
    refine V_bipush hC (7) kX6_tellsAbout_57 (by decide) ?_
    refine V_iload_n hC kX6_tellsAbout_59 rfl ?_
    refine V_iadd hC kX6_tellsAbout_60 ?_
    refine V_iconst hC (5) kX6_tellsAbout_61 (by decide) ?_
    refine V_isub hC kX6_tellsAbout_62 ?_
    refine V_iald hC 9 rfl kX6_tellsAbout_63 (vp_lit rfl) ?_
    refine V_ireti hC rfl kX6_tellsAbout_64 ?_
    exact ⟨cI (by unfold F_tells; rfl), by with_reducible rfl⟩
  · refine V_iload_n hC kX6_tellsAbout_0 rfl ?_
    refine V_tabOut hC 53 kX6_tellsAbout_1 (by decide) (by decide) ?_
    refine V_aload_n hC kX6_tellsAbout_53 rfl ?_
    refine V_getR hC hWr 6 1 lfX6_7 kX6_tellsAbout_54 (Nat.le_of_ble_eq_true rfl) (Nat.le_of_ble_eq_true rfl) rfl ?_
    refine V_bipush hC (7) kX6_tellsAbout_57 (by decide) ?_
    refine V_iload_n hC kX6_tellsAbout_59 rfl ?_
    refine V_iadd hC kX6_tellsAbout_60 ?_
    refine V_iconst hC (5) kX6_tellsAbout_61 (by decide) ?_
    refine V_isub hC kX6_tellsAbout_62 ?_
    refine V_iald hC 10 rfl kX6_tellsAbout_63 (vp_lit rfl) ?_
    refine V_ireti hC rfl kX6_tellsAbout_64 ?_
    exact ⟨cI (by unfold F_tells; rfl), by with_reducible rfl⟩
  · refine V_iload_n hC kX6_tellsAbout_0 rfl ?_
    refine V_tabOut hC 53 kX6_tellsAbout_1 (by decide) (by decide) ?_
    refine V_aload_n hC kX6_tellsAbout_53 rfl ?_
    refine V_getR hC hWr 6 1 lfX6_7 kX6_tellsAbout_54 (Nat.le_of_ble_eq_true rfl) (Nat.le_of_ble_eq_true rfl) rfl ?_
    refine V_bipush hC (7) kX6_tellsAbout_57 (by decide) ?_
    refine V_iload_n hC kX6_tellsAbout_59 rfl ?_
    refine V_iadd hC kX6_tellsAbout_60 ?_
    refine V_iconst hC (5) kX6_tellsAbout_61 (by decide) ?_
    refine V_isub hC kX6_tellsAbout_62 ?_
    refine V_iald hC 11 rfl kX6_tellsAbout_63 (vp_lit rfl) ?_
    refine V_ireti hC rfl kX6_tellsAbout_64 ?_
    exact ⟨cI (by unfold F_tells; rfl), by with_reducible rfl⟩
def mtX6_about : Mt := (yX6_about, cX6_about, 2, (some .int), 3, 66, 0, 0)
theorem kX6_about_0 : Dk mtX6_about 0 (.aload_n 0) 1 1 := ⟨by decide +kernel, rfl⟩
theorem kX6_about_1 : Dk mtX6_about 1 (.iconst 0) 1 2 := ⟨by decide +kernel, rfl⟩
theorem kX6_about_2 : Dk mtX6_about 2 (.putfield 32) 3 5 := ⟨by decide +kernel, rfl⟩
theorem kX6_about_5 : Dk mtX6_about 5 (.iload_n 1) 1 6 := ⟨by decide +kernel, rfl⟩
theorem kX6_about_6 : Dk mtX6_about 6 (.iconst 0) 1 7 := ⟨by decide +kernel, rfl⟩
theorem kX6_about_7 : Dk mtX6_about 7 (.bipush 9) 2 9 := ⟨by decide +kernel, rfl⟩
theorem kX6_about_9 : Dk mtX6_about 9 (.invokestatic 39) 3 12 := ⟨by decide +kernel, rfl⟩
theorem kX6_about_12 : Dk mtX6_about 12 (.ifCond .eq 11) 3 15 := ⟨by decide +kernel, rfl⟩
theorem kX6_about_15 : Dk mtX6_about 15 (.aload_n 0) 1 16 := ⟨by decide +kernel, rfl⟩
theorem kX6_about_16 : Dk mtX6_about 16 (.iload_n 1) 1 17 := ⟨by decide +kernel, rfl⟩
theorem kX6_about_17 : Dk mtX6_about 17 (.invokevirtual 188) 3 20 := ⟨by decide +kernel, rfl⟩
theorem kX6_about_20 : Dk mtX6_about 20 (.goto 8) 3 23 := ⟨by decide +kernel, rfl⟩
theorem kX6_about_23 : Dk mtX6_about 23 (.aload_n 0) 1 24 := ⟨by decide +kernel, rfl⟩
theorem kX6_about_24 : Dk mtX6_about 24 (.iconst 1) 1 25 := ⟨by decide +kernel, rfl⟩
theorem kX6_about_25 : Dk mtX6_about 25 (.invokevirtual 127) 3 28 := ⟨by decide +kernel, rfl⟩
theorem kX6_about_28 : Dk mtX6_about 28 (.ireturn) 1 29 := ⟨by decide +kernel, rfl⟩
theorem lmX6_127 : LkM RX6 127 mtX6_fails := Or.inl (by decide +kernel)
theorem mkX6_fails : MkV mtX6_fails 1 := ⟨List.mem_of_getElem? (i := 1082) (by decide +kernel), by decide +kernel, by decide +kernel, by decide +kernel, ⟨by decide +kernel, by decide +kernel, by decide +kernel⟩⟩
theorem lmX6_188 : LkM RX6 188 mtX6_tellsAbout := Or.inl (by decide +kernel)
theorem mkX6_tellsAbout : MkV mtX6_tellsAbout 1 := ⟨List.mem_of_getElem? (i := 1237) (by decide +kernel), by decide +kernel, by decide +kernel, by decide +kernel, ⟨by decide +kernel, by decide +kernel, by decide +kernel⟩⟩
set_option maxHeartbeats 4000000 in
set_option maxRecDepth 100000 in
theorem ct_about {l : Launch} {w : Wd} {sg : Sg} (hWr : Wr w) {mo : Nat} (a : Int32) (hI : Inv (sg (mo + 1))) : M l mtX6_about w [vR (some (6, 0, mo)), vI a] sg (fM mo sg (K_about a) (F_tells (sg (mo + 1)) a) sg) := by
  refine M_of [some (vR (some (6, 0, mo))), some (vI a)] rfl (Nat.le_of_ble_eq_true rfl) (by decide +kernel) ?_
  intro p_ e_ s_ m_ args_ below_ meth_ c_ hC hO
  refine V_aload_n hC kX6_about_0 rfl ?_
  refine V_iconst hC (0) kX6_about_1 (by decide) ?_
  refine V_putI hC 6 0 lfX6_32 kX6_about_2 (Nat.le_of_ble_eq_true rfl) (Nat.le_of_ble_eq_true rfl) rfl rfl ⟨rfl, rfl⟩ ?_
  refine V_nameS (fun sg0 e_sg0 => ?_)
  have hs1 : sg0 (mo + 1) = sg (mo + 1) := by rw [e_sg0]; exact upr_ne _ _ (by omega)
  refine V_iload_n hC kX6_about_5 rfl ?_
  refine V_iconst hC (0) kX6_about_6 (by decide) ?_
  refine V_bipush hC (9) kX6_about_7 (by decide) ?_
  refine V_cS_fI hC (ct_in hWr _ _ _) mkX6_in lmX6_39 kX6_about_9 rfl rfl (Nat.le_of_ble_eq_true rfl) ⟨(Nat.le_of_ble_eq_true rfl), (Nat.le_of_ble_eq_true rfl)⟩ ⟨rfl, rfl⟩ ⟨(Nat.le_of_ble_eq_true rfl), (Nat.le_of_ble_eq_true rfl)⟩ ?_
  refine V_if_eq hC 23 kX6_about_12 (by decide) (fun h12 => ?_) (fun h12 => ?_)
  · refine V_aload_n hC kX6_about_23 rfl ?_
    refine V_iconst hC (1) kX6_about_24 (by decide) ?_
    refine V_cV_fI hC (ct_fails hWr 1) mkX6_fails lmX6_127 kX6_about_25 (Nat.le_of_ble_eq_true rfl) rfl rfl rfl (Nat.le_of_ble_eq_true rfl) ⟨(Nat.le_of_ble_eq_true rfl), (Nat.le_of_ble_eq_true rfl)⟩ ⟨rfl, rfl⟩ ⟨(Nat.le_of_ble_eq_true rfl), (Nat.le_of_ble_eq_true rfl)⟩ ?_
    refine V_ireti hC rfl kX6_about_28 ?_
    first
      | exact fM_no 1 (by rw [K_about, if_neg (b01e.mp h12)]) (by decide) (by rw [e_sg0, ups_ups])
      | exact fM_ok (by rw [K_about, if_pos (b01n.mp h12)]) (by rw [hs1]) e_sg0
  · refine V_aload_n hC kX6_about_15 rfl ?_
    refine V_iload_n hC kX6_about_16 rfl ?_
    refine V_cV_fI hC (ct_tellsAbout hWr a (b01n.mp h12) (by rw [hs1]; exact hI)) mkX6_tellsAbout lmX6_188 kX6_about_17 (Nat.le_of_ble_eq_true rfl) rfl rfl rfl (Nat.le_of_ble_eq_true rfl) ⟨(Nat.le_of_ble_eq_true rfl), (Nat.le_of_ble_eq_true rfl)⟩ ⟨rfl, rfl⟩ ⟨(Nat.le_of_ble_eq_true rfl), (Nat.le_of_ble_eq_true rfl)⟩ ?_
    refine V_goto hC 28 kX6_about_20 (by decide) ?_
    refine V_ireti hC rfl kX6_about_28 ?_
    first
      | exact fM_no 1 (by rw [K_about, if_neg (b01e.mp h12)]) (by decide) (by rw [e_sg0, ups_ups])
      | exact fM_ok (by rw [K_about, if_pos (b01n.mp h12)]) (by rw [hs1]) e_sg0
def mtX6_lightOf : Mt := (yX6_lightOf, cX6_lightOf, 3, (some .int), 2, 45, 0, 0)
theorem kX6_lightOf_0 : Dk mtX6_lightOf 0 (.aload_n 0) 1 1 := ⟨by decide +kernel, rfl⟩
theorem kX6_lightOf_1 : Dk mtX6_lightOf 1 (.iconst 0) 1 2 := ⟨by decide +kernel, rfl⟩
theorem kX6_lightOf_2 : Dk mtX6_lightOf 2 (.putfield 32) 3 5 := ⟨by decide +kernel, rfl⟩
theorem kX6_lightOf_5 : Dk mtX6_lightOf 5 (.aload_n 0) 1 6 := ⟨by decide +kernel, rfl⟩
theorem kX6_lightOf_6 : Dk mtX6_lightOf 6 (.iload_n 1) 1 7 := ⟨by decide +kernel, rfl⟩
theorem kX6_lightOf_7 : Dk mtX6_lightOf 7 (.invokevirtual 114) 3 10 := ⟨by decide +kernel, rfl⟩
theorem kX6_lightOf_10 : Dk mtX6_lightOf 10 (.ifCond .ne 9) 3 13 := ⟨by decide +kernel, rfl⟩
theorem kX6_lightOf_13 : Dk mtX6_lightOf 13 (.aload_n 0) 1 14 := ⟨by decide +kernel, rfl⟩
theorem kX6_lightOf_14 : Dk mtX6_lightOf 14 (.iconst 1) 1 15 := ⟨by decide +kernel, rfl⟩
theorem kX6_lightOf_15 : Dk mtX6_lightOf 15 (.invokevirtual 127) 3 18 := ⟨by decide +kernel, rfl⟩
theorem kX6_lightOf_18 : Dk mtX6_lightOf 18 (.ireturn) 1 19 := ⟨by decide +kernel, rfl⟩
theorem kX6_lightOf_19 : Dk mtX6_lightOf 19 (.iload_n 2) 1 20 := ⟨by decide +kernel, rfl⟩
theorem kX6_lightOf_20 : Dk mtX6_lightOf 20 (.iconst 0) 1 21 := ⟨by decide +kernel, rfl⟩
theorem kX6_lightOf_21 : Dk mtX6_lightOf 21 (.bipush 8) 2 23 := ⟨by decide +kernel, rfl⟩
theorem kX6_lightOf_23 : Dk mtX6_lightOf 23 (.invokestatic 39) 3 26 := ⟨by decide +kernel, rfl⟩
theorem kX6_lightOf_26 : Dk mtX6_lightOf 26 (.ifCond .ne 9) 3 29 := ⟨by decide +kernel, rfl⟩
theorem kX6_lightOf_29 : Dk mtX6_lightOf 29 (.aload_n 0) 1 30 := ⟨by decide +kernel, rfl⟩
theorem kX6_lightOf_30 : Dk mtX6_lightOf 30 (.iconst 2) 1 31 := ⟨by decide +kernel, rfl⟩
theorem kX6_lightOf_31 : Dk mtX6_lightOf 31 (.invokevirtual 127) 3 34 := ⟨by decide +kernel, rfl⟩
theorem kX6_lightOf_34 : Dk mtX6_lightOf 34 (.ireturn) 1 35 := ⟨by decide +kernel, rfl⟩
theorem kX6_lightOf_35 : Dk mtX6_lightOf 35 (.iload_n 2) 1 36 := ⟨by decide +kernel, rfl⟩
theorem kX6_lightOf_36 : Dk mtX6_lightOf 36 (.bipush 7) 2 38 := ⟨by decide +kernel, rfl⟩
theorem kX6_lightOf_38 : Dk mtX6_lightOf 38 (.if_icmp .ge 12) 3 41 := ⟨by decide +kernel, rfl⟩
theorem kX6_lightOf_41 : Dk mtX6_lightOf 41 (.aload_n 0) 1 42 := ⟨by decide +kernel, rfl⟩
theorem kX6_lightOf_42 : Dk mtX6_lightOf 42 (.iload_n 1) 1 43 := ⟨by decide +kernel, rfl⟩
theorem kX6_lightOf_43 : Dk mtX6_lightOf 43 (.iload_n 2) 1 44 := ⟨by decide +kernel, rfl⟩
theorem kX6_lightOf_44 : Dk mtX6_lightOf 44 (.invokevirtual 46) 3 47 := ⟨by decide +kernel, rfl⟩
theorem kX6_lightOf_47 : Dk mtX6_lightOf 47 (.goto 24) 3 50 := ⟨by decide +kernel, rfl⟩
theorem kX6_lightOf_50 : Dk mtX6_lightOf 50 (.iload_n 2) 1 51 := ⟨by decide +kernel, rfl⟩
theorem kX6_lightOf_51 : Dk mtX6_lightOf 51 (.bipush 7) 2 53 := ⟨by decide +kernel, rfl⟩
theorem kX6_lightOf_53 : Dk mtX6_lightOf 53 (.if_icmp .ne 11) 3 56 := ⟨by decide +kernel, rfl⟩
theorem kX6_lightOf_56 : Dk mtX6_lightOf 56 (.aload_n 0) 1 57 := ⟨by decide +kernel, rfl⟩
theorem kX6_lightOf_57 : Dk mtX6_lightOf 57 (.iload_n 1) 1 58 := ⟨by decide +kernel, rfl⟩
theorem kX6_lightOf_58 : Dk mtX6_lightOf 58 (.invokevirtual 191) 3 61 := ⟨by decide +kernel, rfl⟩
theorem kX6_lightOf_61 : Dk mtX6_lightOf 61 (.goto 10) 3 64 := ⟨by decide +kernel, rfl⟩
theorem kX6_lightOf_64 : Dk mtX6_lightOf 64 (.aload_n 0) 1 65 := ⟨by decide +kernel, rfl⟩
theorem kX6_lightOf_65 : Dk mtX6_lightOf 65 (.iload_n 1) 1 66 := ⟨by decide +kernel, rfl⟩
theorem kX6_lightOf_66 : Dk mtX6_lightOf 66 (.bipush 7) 2 68 := ⟨by decide +kernel, rfl⟩
theorem kX6_lightOf_68 : Dk mtX6_lightOf 68 (.invokevirtual 46) 3 71 := ⟨by decide +kernel, rfl⟩
theorem kX6_lightOf_71 : Dk mtX6_lightOf 71 (.ireturn) 1 72 := ⟨by decide +kernel, rfl⟩
theorem lmX6_191 : LkM RX6 191 mtX6_servedBy := Or.inl (by decide +kernel)
theorem mkX6_servedBy : MkV mtX6_servedBy 1 := ⟨List.mem_of_getElem? (i := 1253) (by decide +kernel), by decide +kernel, by decide +kernel, by decide +kernel, ⟨by decide +kernel, by decide +kernel, by decide +kernel⟩⟩
set_option maxHeartbeats 4000000 in
set_option maxRecDepth 100000 in
theorem ct_lightOf {l : Launch} {w : Wd} {sg : Sg} (hWr : Wr w) {mo : Nat} (a b : Int32) (hI : Inv (sg (mo + 1))) : M l mtX6_lightOf w [vR (some (6, 0, mo)), vI a, vI b] sg (fM mo sg (K_lightOf (sg (mo + 1)) a b) (R_lightOf (sg (mo + 1)) a b) sg) := by
  refine M_of [some (vR (some (6, 0, mo))), some (vI a), some (vI b)] rfl (Nat.le_of_ble_eq_true rfl) (by decide +kernel) ?_
  intro p_ e_ s_ m_ args_ below_ meth_ c_ hC hO
  refine V_aload_n hC kX6_lightOf_0 rfl ?_
  refine V_iconst hC (0) kX6_lightOf_1 (by decide) ?_
  refine V_putI hC 6 0 lfX6_32 kX6_lightOf_2 (Nat.le_of_ble_eq_true rfl) (Nat.le_of_ble_eq_true rfl) rfl rfl ⟨rfl, rfl⟩ ?_
  refine V_nameS (fun sg0 e_sg0 => ?_)
  have hs1 : sg0 (mo + 1) = sg (mo + 1) := by rw [e_sg0]; exact upr_ne _ _ (by omega)
  refine V_aload_n hC kX6_lightOf_5 rfl ?_
  refine V_iload_n hC kX6_lightOf_6 rfl ?_
  refine V_cV_fI hC (ct_isLight hWr a) mkX6_isLight lmX6_114 kX6_lightOf_7 (Nat.le_of_ble_eq_true rfl) rfl rfl rfl (Nat.le_of_ble_eq_true rfl) ⟨(Nat.le_of_ble_eq_true rfl), (Nat.le_of_ble_eq_true rfl)⟩ ⟨rfl, rfl⟩ ⟨(Nat.le_of_ble_eq_true rfl), (Nat.le_of_ble_eq_true rfl)⟩ ?_
  refine V_if_ne hC 19 kX6_lightOf_10 (by decide) (fun h10 => ?_) (fun h10 => ?_)
  · refine V_iload_n hC kX6_lightOf_19 rfl ?_
    refine V_iconst hC (0) kX6_lightOf_20 (by decide) ?_
    refine V_bipush hC (8) kX6_lightOf_21 (by decide) ?_
    refine V_cS_fI hC (ct_in hWr _ _ _) mkX6_in lmX6_39 kX6_lightOf_23 rfl rfl (Nat.le_of_ble_eq_true rfl) ⟨(Nat.le_of_ble_eq_true rfl), (Nat.le_of_ble_eq_true rfl)⟩ ⟨rfl, rfl⟩ ⟨(Nat.le_of_ble_eq_true rfl), (Nat.le_of_ble_eq_true rfl)⟩ ?_
    refine V_if_ne hC 35 kX6_lightOf_26 (by decide) (fun h26 => ?_) (fun h26 => ?_)
    · have h6 : vp_in a 6 := vpL hI.hc4 (by rw [hs1] at h10; exact b01n.mp h10)
      have hb := b01n.mp h26
      have hK : K_lightOf (sg (mo + 1)) a b = 0 := by rw [hs1] at h10; rw [K_lightOf, if_pos (b01n.mp h10), if_pos hb]
      refine V_iload_n hC kX6_lightOf_35 rfl ?_
      refine V_bipush hC (7) kX6_lightOf_36 (by decide) ?_
      refine V_icmp_ge hC 50 kX6_lightOf_38 (by decide) (fun h38 => ?_) (fun h38 => ?_)
      · refine V_iload_n hC kX6_lightOf_50 rfl ?_
        refine V_bipush hC (7) kX6_lightOf_51 (by decide) ?_
        refine V_icmp_ne hC 64 kX6_lightOf_53 (by decide) (fun h53 => ?_) (fun h53 => ?_)
        · refine V_aload_n hC kX6_lightOf_64 rfl ?_
          refine V_iload_n hC kX6_lightOf_65 rfl ?_
          refine V_bipush hC (7) kX6_lightOf_66 (by decide) ?_
          refine V_cV_fI hC (ct_of hWr a 7 h6 (vp_lit rfl)) mkX6_of lmX6_46 kX6_lightOf_68 (Nat.le_of_ble_eq_true rfl) rfl rfl rfl (Nat.le_of_ble_eq_true rfl) ⟨(Nat.le_of_ble_eq_true rfl), (Nat.le_of_ble_eq_true rfl)⟩ ⟨rfl, rfl⟩ ⟨(Nat.le_of_ble_eq_true rfl), (Nat.le_of_ble_eq_true rfl)⟩ ?_
          refine V_ireti hC rfl kX6_lightOf_71 ?_
          first
            | exact fM_ok hK (by rw [hs1, R_lightOf, if_pos (Int32.not_le.mp h38)]) e_sg0
            | exact fM_ok hK (by rw [hs1, R_lightOf, if_neg (Int32.not_lt.mpr h38), if_pos h53]) e_sg0
            | exact fM_ok hK (by rw [hs1, R_lightOf, if_neg (Int32.not_lt.mpr h38), if_neg h53]) e_sg0
        · refine V_aload_n hC kX6_lightOf_56 rfl ?_
          refine V_iload_n hC kX6_lightOf_57 rfl ?_
          refine V_cV_fI hC (ct_servedBy hWr a (by rw [hs1]; exact hI.hc5)) mkX6_servedBy lmX6_191 kX6_lightOf_58 (Nat.le_of_ble_eq_true rfl) rfl rfl rfl (Nat.le_of_ble_eq_true rfl) ⟨(Nat.le_of_ble_eq_true rfl), (Nat.le_of_ble_eq_true rfl)⟩ ⟨rfl, rfl⟩ ⟨(Nat.le_of_ble_eq_true rfl), (Nat.le_of_ble_eq_true rfl)⟩ ?_
          refine V_goto hC 71 kX6_lightOf_61 (by decide) ?_
          refine V_ireti hC rfl kX6_lightOf_71 ?_
          first
            | exact fM_ok hK (by rw [hs1, R_lightOf, if_pos (Int32.not_le.mp h38)]) e_sg0
            | exact fM_ok hK (by rw [hs1, R_lightOf, if_neg (Int32.not_lt.mpr h38), if_pos h53]) e_sg0
            | exact fM_ok hK (by rw [hs1, R_lightOf, if_neg (Int32.not_lt.mpr h38), if_neg h53]) e_sg0
      · refine V_aload_n hC kX6_lightOf_41 rfl ?_
        refine V_iload_n hC kX6_lightOf_42 rfl ?_
        refine V_iload_n hC kX6_lightOf_43 rfl ?_
        refine V_cV_fI hC (ct_of hWr a b h6 (inn_vp (M := 7) (by decide) ⟨hb.1, Int32.le_of_lt (Int32.not_le.mp h38)⟩)) mkX6_of lmX6_46 kX6_lightOf_44 (Nat.le_of_ble_eq_true rfl) rfl rfl rfl (Nat.le_of_ble_eq_true rfl) ⟨(Nat.le_of_ble_eq_true rfl), (Nat.le_of_ble_eq_true rfl)⟩ ⟨rfl, rfl⟩ ⟨(Nat.le_of_ble_eq_true rfl), (Nat.le_of_ble_eq_true rfl)⟩ ?_
        refine V_goto hC 71 kX6_lightOf_47 (by decide) ?_
        refine V_ireti hC rfl kX6_lightOf_71 ?_
        first
          | exact fM_ok hK (by rw [hs1, R_lightOf, if_pos (Int32.not_le.mp h38)]) e_sg0
          | exact fM_ok hK (by rw [hs1, R_lightOf, if_neg (Int32.not_lt.mpr h38), if_pos h53]) e_sg0
          | exact fM_ok hK (by rw [hs1, R_lightOf, if_neg (Int32.not_lt.mpr h38), if_neg h53]) e_sg0
    · refine V_aload_n hC kX6_lightOf_29 rfl ?_
      refine V_iconst hC (2) kX6_lightOf_30 (by decide) ?_
      refine V_cV_fI hC (ct_fails hWr 2) mkX6_fails lmX6_127 kX6_lightOf_31 (Nat.le_of_ble_eq_true rfl) rfl rfl rfl (Nat.le_of_ble_eq_true rfl) ⟨(Nat.le_of_ble_eq_true rfl), (Nat.le_of_ble_eq_true rfl)⟩ ⟨rfl, rfl⟩ ⟨(Nat.le_of_ble_eq_true rfl), (Nat.le_of_ble_eq_true rfl)⟩ ?_
      refine V_ireti hC rfl kX6_lightOf_34 ?_
      exact fM_no 2 (by rw [hs1] at h10; rw [K_lightOf, if_pos (b01n.mp h10), if_neg (b01e.mp h26)]) (by decide) (by rw [e_sg0, ups_ups])
  · refine V_aload_n hC kX6_lightOf_13 rfl ?_
    refine V_iconst hC (1) kX6_lightOf_14 (by decide) ?_
    refine V_cV_fI hC (ct_fails hWr 1) mkX6_fails lmX6_127 kX6_lightOf_15 (Nat.le_of_ble_eq_true rfl) rfl rfl rfl (Nat.le_of_ble_eq_true rfl) ⟨(Nat.le_of_ble_eq_true rfl), (Nat.le_of_ble_eq_true rfl)⟩ ⟨rfl, rfl⟩ ⟨(Nat.le_of_ble_eq_true rfl), (Nat.le_of_ble_eq_true rfl)⟩ ?_
    refine V_ireti hC rfl kX6_lightOf_18 ?_
    exact fM_no 1 (by rw [hs1] at h10; rw [K_lightOf, if_neg (b01e.mp h10)]) (by decide) (by rw [e_sg0, ups_ups])
def mtX6_boatOf : Mt := (yX6_boatOf, cX6_boatOf, 3, (some .int), 2, 43, 0, 0)
theorem kX6_boatOf_0 : Dk mtX6_boatOf 0 (.aload_n 0) 1 1 := ⟨by decide +kernel, rfl⟩
theorem kX6_boatOf_1 : Dk mtX6_boatOf 1 (.iconst 0) 1 2 := ⟨by decide +kernel, rfl⟩
theorem kX6_boatOf_2 : Dk mtX6_boatOf 2 (.putfield 32) 3 5 := ⟨by decide +kernel, rfl⟩
theorem kX6_boatOf_5 : Dk mtX6_boatOf 5 (.aload_n 0) 1 6 := ⟨by decide +kernel, rfl⟩
theorem kX6_boatOf_6 : Dk mtX6_boatOf 6 (.iload_n 1) 1 7 := ⟨by decide +kernel, rfl⟩
theorem kX6_boatOf_7 : Dk mtX6_boatOf 7 (.invokevirtual 108) 3 10 := ⟨by decide +kernel, rfl⟩
theorem kX6_boatOf_10 : Dk mtX6_boatOf 10 (.ifCond .ne 9) 3 13 := ⟨by decide +kernel, rfl⟩
theorem kX6_boatOf_13 : Dk mtX6_boatOf 13 (.aload_n 0) 1 14 := ⟨by decide +kernel, rfl⟩
theorem kX6_boatOf_14 : Dk mtX6_boatOf 14 (.iconst 1) 1 15 := ⟨by decide +kernel, rfl⟩
theorem kX6_boatOf_15 : Dk mtX6_boatOf 15 (.invokevirtual 127) 3 18 := ⟨by decide +kernel, rfl⟩
theorem kX6_boatOf_18 : Dk mtX6_boatOf 18 (.ireturn) 1 19 := ⟨by decide +kernel, rfl⟩
theorem kX6_boatOf_19 : Dk mtX6_boatOf 19 (.iload_n 2) 1 20 := ⟨by decide +kernel, rfl⟩
theorem kX6_boatOf_20 : Dk mtX6_boatOf 20 (.iconst 0) 1 21 := ⟨by decide +kernel, rfl⟩
theorem kX6_boatOf_21 : Dk mtX6_boatOf 21 (.bipush 8) 2 23 := ⟨by decide +kernel, rfl⟩
theorem kX6_boatOf_23 : Dk mtX6_boatOf 23 (.invokestatic 39) 3 26 := ⟨by decide +kernel, rfl⟩
theorem kX6_boatOf_26 : Dk mtX6_boatOf 26 (.ifCond .ne 9) 3 29 := ⟨by decide +kernel, rfl⟩
theorem kX6_boatOf_29 : Dk mtX6_boatOf 29 (.aload_n 0) 1 30 := ⟨by decide +kernel, rfl⟩
theorem kX6_boatOf_30 : Dk mtX6_boatOf 30 (.iconst 2) 1 31 := ⟨by decide +kernel, rfl⟩
theorem kX6_boatOf_31 : Dk mtX6_boatOf 31 (.invokevirtual 127) 3 34 := ⟨by decide +kernel, rfl⟩
theorem kX6_boatOf_34 : Dk mtX6_boatOf 34 (.ireturn) 1 35 := ⟨by decide +kernel, rfl⟩
theorem kX6_boatOf_35 : Dk mtX6_boatOf 35 (.aload_n 0) 1 36 := ⟨by decide +kernel, rfl⟩
theorem kX6_boatOf_36 : Dk mtX6_boatOf 36 (.iload_n 1) 1 37 := ⟨by decide +kernel, rfl⟩
theorem kX6_boatOf_37 : Dk mtX6_boatOf 37 (.iload_n 2) 1 38 := ⟨by decide +kernel, rfl⟩
theorem kX6_boatOf_38 : Dk mtX6_boatOf 38 (.invokevirtual 53) 3 41 := ⟨by decide +kernel, rfl⟩
theorem kX6_boatOf_41 : Dk mtX6_boatOf 41 (.iload_n 2) 1 42 := ⟨by decide +kernel, rfl⟩
theorem kX6_boatOf_42 : Dk mtX6_boatOf 42 (.iconst 2) 1 43 := ⟨by decide +kernel, rfl⟩
theorem kX6_boatOf_43 : Dk mtX6_boatOf 43 (.if_icmp .eq 14) 3 46 := ⟨by decide +kernel, rfl⟩
theorem kX6_boatOf_46 : Dk mtX6_boatOf 46 (.iload_n 2) 1 47 := ⟨by decide +kernel, rfl⟩
theorem kX6_boatOf_47 : Dk mtX6_boatOf 47 (.iconst 4) 1 48 := ⟨by decide +kernel, rfl⟩
theorem kX6_boatOf_48 : Dk mtX6_boatOf 48 (.if_icmp .eq 9) 3 51 := ⟨by decide +kernel, rfl⟩
theorem kX6_boatOf_51 : Dk mtX6_boatOf 51 (.iload_n 2) 1 52 := ⟨by decide +kernel, rfl⟩
theorem kX6_boatOf_52 : Dk mtX6_boatOf 52 (.bipush 6) 2 54 := ⟨by decide +kernel, rfl⟩
theorem kX6_boatOf_54 : Dk mtX6_boatOf 54 (.if_icmp .ne 7) 3 57 := ⟨by decide +kernel, rfl⟩
theorem kX6_boatOf_57 : Dk mtX6_boatOf 57 (.iconst 1) 1 58 := ⟨by decide +kernel, rfl⟩
theorem kX6_boatOf_58 : Dk mtX6_boatOf 58 (.goto 4) 3 61 := ⟨by decide +kernel, rfl⟩
theorem kX6_boatOf_61 : Dk mtX6_boatOf 61 (.iconst 0) 1 62 := ⟨by decide +kernel, rfl⟩
theorem kX6_boatOf_62 : Dk mtX6_boatOf 62 (.isub) 1 63 := ⟨by decide +kernel, rfl⟩
theorem kX6_boatOf_63 : Dk mtX6_boatOf 63 (.ireturn) 1 64 := ⟨by decide +kernel, rfl⟩
set_option maxHeartbeats 4000000 in
set_option maxRecDepth 100000 in
theorem ct_boatOf {l : Launch} {w : Wd} {sg : Sg} (hWr : Wr w) {mo : Nat} (a b : Int32) (hI : Inv (sg (mo + 1))) : M l mtX6_boatOf w [vR (some (6, 0, mo)), vI a, vI b] sg (fM mo sg (K_boatOf (sg (mo + 1)) a b) (R_boatOf (sg (mo + 1)) a b) sg) := by
  refine M_of [some (vR (some (6, 0, mo))), some (vI a), some (vI b)] rfl (Nat.le_of_ble_eq_true rfl) (by decide +kernel) ?_
  intro p_ e_ s_ m_ args_ below_ meth_ c_ hC hO
  refine V_aload_n hC kX6_boatOf_0 rfl ?_
  refine V_iconst hC (0) kX6_boatOf_1 (by decide) ?_
  refine V_putI hC 6 0 lfX6_32 kX6_boatOf_2 (Nat.le_of_ble_eq_true rfl) (Nat.le_of_ble_eq_true rfl) rfl rfl ⟨rfl, rfl⟩ ?_
  refine V_nameS (fun sg0 e_sg0 => ?_)
  have hs1 : sg0 (mo + 1) = sg (mo + 1) := by rw [e_sg0]; exact upr_ne _ _ (by omega)
  refine V_aload_n hC kX6_boatOf_5 rfl ?_
  refine V_iload_n hC kX6_boatOf_6 rfl ?_
  refine V_cV_fI hC (ct_isBoat hWr a) mkX6_isBoat lmX6_108 kX6_boatOf_7 (Nat.le_of_ble_eq_true rfl) rfl rfl rfl (Nat.le_of_ble_eq_true rfl) ⟨(Nat.le_of_ble_eq_true rfl), (Nat.le_of_ble_eq_true rfl)⟩ ⟨rfl, rfl⟩ ⟨(Nat.le_of_ble_eq_true rfl), (Nat.le_of_ble_eq_true rfl)⟩ ?_
  refine V_if_ne hC 19 kX6_boatOf_10 (by decide) (fun h10 => ?_) (fun h10 => ?_)
  · refine V_iload_n hC kX6_boatOf_19 rfl ?_
    refine V_iconst hC (0) kX6_boatOf_20 (by decide) ?_
    refine V_bipush hC (8) kX6_boatOf_21 (by decide) ?_
    refine V_cS_fI hC (ct_in hWr _ _ _) mkX6_in lmX6_39 kX6_boatOf_23 rfl rfl (Nat.le_of_ble_eq_true rfl) ⟨(Nat.le_of_ble_eq_true rfl), (Nat.le_of_ble_eq_true rfl)⟩ ⟨rfl, rfl⟩ ⟨(Nat.le_of_ble_eq_true rfl), (Nat.le_of_ble_eq_true rfl)⟩ ?_
    refine V_if_ne hC 35 kX6_boatOf_26 (by decide) (fun h26 => ?_) (fun h26 => ?_)
    · have h8 : vp_in a 8 := vpB hI.hc5 (by rw [hs1] at h10; exact b01n.mp h10)
      have hb := b01n.mp h26
      have hK : K_boatOf (sg (mo + 1)) a b = 0 := by rw [hs1] at h10; rw [K_boatOf, if_pos (b01n.mp h10), if_pos hb]
      refine V_aload_n hC kX6_boatOf_35 rfl ?_
      refine V_iload_n hC kX6_boatOf_36 rfl ?_
      refine V_iload_n hC kX6_boatOf_37 rfl ?_
      refine V_cV_fI hC (ct_ofBoat hWr a b h8 (inn_vp (M := 8) (by decide) hb)) mkX6_ofBoat lmX6_53 kX6_boatOf_38 (Nat.le_of_ble_eq_true rfl) rfl rfl rfl (Nat.le_of_ble_eq_true rfl) ⟨(Nat.le_of_ble_eq_true rfl), (Nat.le_of_ble_eq_true rfl)⟩ ⟨rfl, rfl⟩ ⟨(Nat.le_of_ble_eq_true rfl), (Nat.le_of_ble_eq_true rfl)⟩ ?_
      refine V_join 62 (b01 (b = 2 ∨ b = 4 ∨ b = 6)) ?_ (fun j62 => ?_)
      · refine V_isub hC kX6_boatOf_62 ?_
        refine V_ireti hC rfl kX6_boatOf_63 ?_
        exact fM_ok hK (by rw [hs1, R_boatOf]) e_sg0
      · refine V_iload_n hC kX6_boatOf_41 rfl ?_
        refine V_iconst hC (2) kX6_boatOf_42 (by decide) ?_
        refine V_icmp_eq hC 57 kX6_boatOf_43 (by decide) (fun h43 => ?_) (fun h43 => ?_)
        · refine V_iconst hC (1) kX6_boatOf_57 (by decide) ?_
          refine V_goto hC 62 kX6_boatOf_58 (by decide) ?_
          exact j62 _ ((b01_t (Or.inl h43)).symm)
        · refine V_iload_n hC kX6_boatOf_46 rfl ?_
          refine V_iconst hC (4) kX6_boatOf_47 (by decide) ?_
          refine V_icmp_eq hC 57 kX6_boatOf_48 (by decide) (fun h48 => ?_) (fun h48 => ?_)
          · refine V_iconst hC (1) kX6_boatOf_57 (by decide) ?_
            refine V_goto hC 62 kX6_boatOf_58 (by decide) ?_
            exact j62 _ ((b01_t (Or.inr (Or.inl h48))).symm)
          · refine V_iload_n hC kX6_boatOf_51 rfl ?_
            refine V_bipush hC (6) kX6_boatOf_52 (by decide) ?_
            refine V_icmp_ne hC 61 kX6_boatOf_54 (by decide) (fun h54 => ?_) (fun h54 => ?_)
            · refine V_iconst hC (0) kX6_boatOf_61 (by decide) ?_
              exact j62 _ ((b01_f (fun z => z.elim h43 (fun z => z.elim h48 h54))).symm)
            · refine V_iconst hC (1) kX6_boatOf_57 (by decide) ?_
              refine V_goto hC 62 kX6_boatOf_58 (by decide) ?_
              exact j62 _ ((b01_t (Or.inr (Or.inr h54))).symm)
    · refine V_aload_n hC kX6_boatOf_29 rfl ?_
      refine V_iconst hC (2) kX6_boatOf_30 (by decide) ?_
      refine V_cV_fI hC (ct_fails hWr 2) mkX6_fails lmX6_127 kX6_boatOf_31 (Nat.le_of_ble_eq_true rfl) rfl rfl rfl (Nat.le_of_ble_eq_true rfl) ⟨(Nat.le_of_ble_eq_true rfl), (Nat.le_of_ble_eq_true rfl)⟩ ⟨rfl, rfl⟩ ⟨(Nat.le_of_ble_eq_true rfl), (Nat.le_of_ble_eq_true rfl)⟩ ?_
      refine V_ireti hC rfl kX6_boatOf_34 ?_
      exact fM_no 2 (by rw [hs1] at h10; rw [K_boatOf, if_pos (b01n.mp h10), if_neg (b01e.mp h26)]) (by decide) (by rw [e_sg0, ups_ups])
  · refine V_aload_n hC kX6_boatOf_13 rfl ?_
    refine V_iconst hC (1) kX6_boatOf_14 (by decide) ?_
    refine V_cV_fI hC (ct_fails hWr 1) mkX6_fails lmX6_127 kX6_boatOf_15 (Nat.le_of_ble_eq_true rfl) rfl rfl rfl (Nat.le_of_ble_eq_true rfl) ⟨(Nat.le_of_ble_eq_true rfl), (Nat.le_of_ble_eq_true rfl)⟩ ⟨rfl, rfl⟩ ⟨(Nat.le_of_ble_eq_true rfl), (Nat.le_of_ble_eq_true rfl)⟩ ?_
    refine V_ireti hC rfl kX6_boatOf_18 ?_
    exact fM_no 1 (by rw [hs1] at h10; rw [K_boatOf, if_neg (b01e.mp h10)]) (by decide) (by rw [e_sg0, ups_ups])
def mtX6_brightness : Mt := (yX6_brightness, cX6_brightness, 3, (some .int), 2, 48, 0, 0)
theorem kX6_brightness_0 : Dk mtX6_brightness 0 (.aload_n 0) 1 1 := ⟨by decide +kernel, rfl⟩
theorem kX6_brightness_1 : Dk mtX6_brightness 1 (.iconst 0) 1 2 := ⟨by decide +kernel, rfl⟩
theorem kX6_brightness_2 : Dk mtX6_brightness 2 (.putfield 32) 3 5 := ⟨by decide +kernel, rfl⟩
theorem kX6_brightness_5 : Dk mtX6_brightness 5 (.aload_n 0) 1 6 := ⟨by decide +kernel, rfl⟩
theorem kX6_brightness_6 : Dk mtX6_brightness 6 (.iload_n 1) 1 7 := ⟨by decide +kernel, rfl⟩
theorem kX6_brightness_7 : Dk mtX6_brightness 7 (.invokevirtual 114) 3 10 := ⟨by decide +kernel, rfl⟩
theorem kX6_brightness_10 : Dk mtX6_brightness 10 (.ifCond .eq 19) 3 13 := ⟨by decide +kernel, rfl⟩
theorem kX6_brightness_13 : Dk mtX6_brightness 13 (.iload_n 2) 1 14 := ⟨by decide +kernel, rfl⟩
theorem kX6_brightness_14 : Dk mtX6_brightness 14 (.invokestatic 59) 3 17 := ⟨by decide +kernel, rfl⟩
theorem kX6_brightness_17 : Dk mtX6_brightness 17 (.ifCond .eq 12) 3 20 := ⟨by decide +kernel, rfl⟩
theorem kX6_brightness_20 : Dk mtX6_brightness 20 (.aload_n 0) 1 21 := ⟨by decide +kernel, rfl⟩
theorem kX6_brightness_21 : Dk mtX6_brightness 21 (.iload_n 1) 1 22 := ⟨by decide +kernel, rfl⟩
theorem kX6_brightness_22 : Dk mtX6_brightness 22 (.iload_n 2) 1 23 := ⟨by decide +kernel, rfl⟩
theorem kX6_brightness_23 : Dk mtX6_brightness 23 (.invokevirtual 50) 3 26 := ⟨by decide +kernel, rfl⟩
theorem kX6_brightness_26 : Dk mtX6_brightness 26 (.goto 8) 3 29 := ⟨by decide +kernel, rfl⟩
theorem kX6_brightness_29 : Dk mtX6_brightness 29 (.aload_n 0) 1 30 := ⟨by decide +kernel, rfl⟩
theorem kX6_brightness_30 : Dk mtX6_brightness 30 (.iconst 1) 1 31 := ⟨by decide +kernel, rfl⟩
theorem kX6_brightness_31 : Dk mtX6_brightness 31 (.invokevirtual 127) 3 34 := ⟨by decide +kernel, rfl⟩
theorem kX6_brightness_34 : Dk mtX6_brightness 34 (.ireturn) 1 35 := ⟨by decide +kernel, rfl⟩
set_option maxHeartbeats 4000000 in
set_option maxRecDepth 100000 in
theorem ct_brightness {l : Launch} {w : Wd} {sg : Sg} (hWr : Wr w) {mo : Nat} (a b : Int32) (hI : Inv (sg (mo + 1))) : M l mtX6_brightness w [vR (some (6, 0, mo)), vI a, vI b] sg (fM mo sg (K_brightness (sg (mo + 1)) a b) (F_bright (sg (mo + 1)) a b) sg) := by
  refine M_of [some (vR (some (6, 0, mo))), some (vI a), some (vI b)] rfl (Nat.le_of_ble_eq_true rfl) (by decide +kernel) ?_
  intro p_ e_ s_ m_ args_ below_ meth_ c_ hC hO
  refine V_aload_n hC kX6_brightness_0 rfl ?_
  refine V_iconst hC (0) kX6_brightness_1 (by decide) ?_
  refine V_putI hC 6 0 lfX6_32 kX6_brightness_2 (Nat.le_of_ble_eq_true rfl) (Nat.le_of_ble_eq_true rfl) rfl rfl ⟨rfl, rfl⟩ ?_
  refine V_nameS (fun sg0 e_sg0 => ?_)
  have hs1 : sg0 (mo + 1) = sg (mo + 1) := by rw [e_sg0]; exact upr_ne _ _ (by omega)
  refine V_aload_n hC kX6_brightness_5 rfl ?_
  refine V_iload_n hC kX6_brightness_6 rfl ?_
  refine V_cV_fI hC (ct_isLight hWr a) mkX6_isLight lmX6_114 kX6_brightness_7 (Nat.le_of_ble_eq_true rfl) rfl rfl rfl (Nat.le_of_ble_eq_true rfl) ⟨(Nat.le_of_ble_eq_true rfl), (Nat.le_of_ble_eq_true rfl)⟩ ⟨rfl, rfl⟩ ⟨(Nat.le_of_ble_eq_true rfl), (Nat.le_of_ble_eq_true rfl)⟩ ?_
  refine V_if_eq hC 29 kX6_brightness_10 (by decide) (fun h10 => ?_) (fun h10 => ?_)
  · refine V_aload_n hC kX6_brightness_29 rfl ?_
    refine V_iconst hC (1) kX6_brightness_30 (by decide) ?_
    refine V_cV_fI hC (ct_fails hWr 1) mkX6_fails lmX6_127 kX6_brightness_31 (Nat.le_of_ble_eq_true rfl) rfl rfl rfl (Nat.le_of_ble_eq_true rfl) ⟨(Nat.le_of_ble_eq_true rfl), (Nat.le_of_ble_eq_true rfl)⟩ ⟨rfl, rfl⟩ ⟨(Nat.le_of_ble_eq_true rfl), (Nat.le_of_ble_eq_true rfl)⟩ ?_
    refine V_ireti hC rfl kX6_brightness_34 ?_
    first
      | exact fM_no 1 (by rw [hs1] at h10; rw [K_brightness, if_neg (fun z => b01e.mp h10 z.1)]) (by decide) (by rw [e_sg0, ups_ups])
      | exact fM_no 1 (by rw [K_brightness, if_neg (fun z => b01e.mp h17 z.2)]) (by decide) (by rw [e_sg0, ups_ups])
      | exact fM_ok (by rw [hs1] at h10; rw [K_brightness, if_pos ⟨b01n.mp h10, b01n.mp h17⟩]) (by rw [hs1]) e_sg0
  · refine V_iload_n hC kX6_brightness_13 rfl ?_
    refine V_cS_fI hC (ct_isPlace hWr b) mkX6_isPlace lmX6_59 kX6_brightness_14 rfl rfl (Nat.le_of_ble_eq_true rfl) ⟨(Nat.le_of_ble_eq_true rfl), (Nat.le_of_ble_eq_true rfl)⟩ ⟨rfl, rfl⟩ ⟨(Nat.le_of_ble_eq_true rfl), (Nat.le_of_ble_eq_true rfl)⟩ ?_
    refine V_if_eq hC 29 kX6_brightness_17 (by decide) (fun h17 => ?_) (fun h17 => ?_)
    · refine V_aload_n hC kX6_brightness_29 rfl ?_
      refine V_iconst hC (1) kX6_brightness_30 (by decide) ?_
      refine V_cV_fI hC (ct_fails hWr 1) mkX6_fails lmX6_127 kX6_brightness_31 (Nat.le_of_ble_eq_true rfl) rfl rfl rfl (Nat.le_of_ble_eq_true rfl) ⟨(Nat.le_of_ble_eq_true rfl), (Nat.le_of_ble_eq_true rfl)⟩ ⟨rfl, rfl⟩ ⟨(Nat.le_of_ble_eq_true rfl), (Nat.le_of_ble_eq_true rfl)⟩ ?_
      refine V_ireti hC rfl kX6_brightness_34 ?_
      first
        | exact fM_no 1 (by rw [hs1] at h10; rw [K_brightness, if_neg (fun z => b01e.mp h10 z.1)]) (by decide) (by rw [e_sg0, ups_ups])
        | exact fM_no 1 (by rw [K_brightness, if_neg (fun z => b01e.mp h17 z.2)]) (by decide) (by rw [e_sg0, ups_ups])
        | exact fM_ok (by rw [hs1] at h10; rw [K_brightness, if_pos ⟨b01n.mp h10, b01n.mp h17⟩]) (by rw [hs1]) e_sg0
    · obtain ⟨n, hn, en⟩ := in_L hI.hc4 (show inn a 0 (sg (mo + 1) 4 - 1) by rw [hs1] at h10; exact b01n.mp h10)
      refine V_aload_n hC kX6_brightness_20 rfl ?_
      refine V_iload_n hC kX6_brightness_21 rfl ?_
      refine V_iload_n hC kX6_brightness_22 rfl ?_
      refine V_cV_fI hC (ct_bright hWr a b (vpL hI.hc4 (by rw [hs1] at h10; exact b01n.mp h10)) (fun _ => by rw [hs1, en]; exact hI.ne hn)) mkX6_bright lmX6_50 kX6_brightness_23 (Nat.le_of_ble_eq_true rfl) rfl rfl rfl (Nat.le_of_ble_eq_true rfl) ⟨(Nat.le_of_ble_eq_true rfl), (Nat.le_of_ble_eq_true rfl)⟩ ⟨rfl, rfl⟩ ⟨(Nat.le_of_ble_eq_true rfl), (Nat.le_of_ble_eq_true rfl)⟩ ?_
      refine V_goto hC 34 kX6_brightness_26 (by decide) ?_
      refine V_ireti hC rfl kX6_brightness_34 ?_
      first
        | exact fM_no 1 (by rw [hs1] at h10; rw [K_brightness, if_neg (fun z => b01e.mp h10 z.1)]) (by decide) (by rw [e_sg0, ups_ups])
        | exact fM_no 1 (by rw [K_brightness, if_neg (fun z => b01e.mp h17 z.2)]) (by decide) (by rw [e_sg0, ups_ups])
        | exact fM_ok (by rw [hs1] at h10; rw [K_brightness, if_pos ⟨b01n.mp h10, b01n.mp h17⟩]) (by rw [hs1]) e_sg0
def mtX6_bestAt : Mt := (yX6_bestAt, cX6_bestAt, 4, (some .int), 4, 93, 0, 0)
theorem kX6_bestAt_0 : Dk mtX6_bestAt 0 (.aload_n 0) 1 1 := ⟨by decide +kernel, rfl⟩
theorem kX6_bestAt_1 : Dk mtX6_bestAt 1 (.iconst 0) 1 2 := ⟨by decide +kernel, rfl⟩
theorem kX6_bestAt_2 : Dk mtX6_bestAt 2 (.putfield 32) 3 5 := ⟨by decide +kernel, rfl⟩
theorem kX6_bestAt_5 : Dk mtX6_bestAt 5 (.iload_n 1) 1 6 := ⟨by decide +kernel, rfl⟩
theorem kX6_bestAt_6 : Dk mtX6_bestAt 6 (.invokestatic 59) 3 9 := ⟨by decide +kernel, rfl⟩
theorem kX6_bestAt_9 : Dk mtX6_bestAt 9 (.ifCond .ne 9) 3 12 := ⟨by decide +kernel, rfl⟩
theorem kX6_bestAt_12 : Dk mtX6_bestAt 12 (.aload_n 0) 1 13 := ⟨by decide +kernel, rfl⟩
theorem kX6_bestAt_13 : Dk mtX6_bestAt 13 (.iconst 1) 1 14 := ⟨by decide +kernel, rfl⟩
theorem kX6_bestAt_14 : Dk mtX6_bestAt 14 (.invokevirtual 127) 3 17 := ⟨by decide +kernel, rfl⟩
theorem kX6_bestAt_17 : Dk mtX6_bestAt 17 (.ireturn) 1 18 := ⟨by decide +kernel, rfl⟩
theorem kX6_bestAt_18 : Dk mtX6_bestAt 18 (.iload_n 2) 1 19 := ⟨by decide +kernel, rfl⟩
theorem kX6_bestAt_19 : Dk mtX6_bestAt 19 (.iconst 0) 1 20 := ⟨by decide +kernel, rfl⟩
theorem kX6_bestAt_20 : Dk mtX6_bestAt 20 (.iconst 1) 1 21 := ⟨by decide +kernel, rfl⟩
theorem kX6_bestAt_21 : Dk mtX6_bestAt 21 (.invokestatic 39) 3 24 := ⟨by decide +kernel, rfl⟩
theorem kX6_bestAt_24 : Dk mtX6_bestAt 24 (.ifCond .ne 9) 3 27 := ⟨by decide +kernel, rfl⟩
theorem kX6_bestAt_27 : Dk mtX6_bestAt 27 (.aload_n 0) 1 28 := ⟨by decide +kernel, rfl⟩
theorem kX6_bestAt_28 : Dk mtX6_bestAt 28 (.iconst 2) 1 29 := ⟨by decide +kernel, rfl⟩
theorem kX6_bestAt_29 : Dk mtX6_bestAt 29 (.invokevirtual 127) 3 32 := ⟨by decide +kernel, rfl⟩
theorem kX6_bestAt_32 : Dk mtX6_bestAt 32 (.ireturn) 1 33 := ⟨by decide +kernel, rfl⟩
theorem kX6_bestAt_33 : Dk mtX6_bestAt 33 (.aload_n 0) 1 34 := ⟨by decide +kernel, rfl⟩
theorem kX6_bestAt_34 : Dk mtX6_bestAt 34 (.iload_n 1) 1 35 := ⟨by decide +kernel, rfl⟩
theorem kX6_bestAt_35 : Dk mtX6_bestAt 35 (.invokevirtual 194) 3 38 := ⟨by decide +kernel, rfl⟩
theorem kX6_bestAt_38 : Dk mtX6_bestAt 38 (.istore_n 3) 1 39 := ⟨by decide +kernel, rfl⟩
theorem kX6_bestAt_39 : Dk mtX6_bestAt 39 (.iload_n 2) 1 40 := ⟨by decide +kernel, rfl⟩
theorem kX6_bestAt_40 : Dk mtX6_bestAt 40 (.ifCond .ne 7) 3 43 := ⟨by decide +kernel, rfl⟩
theorem kX6_bestAt_43 : Dk mtX6_bestAt 43 (.iload_n 3) 1 44 := ⟨by decide +kernel, rfl⟩
theorem kX6_bestAt_44 : Dk mtX6_bestAt 44 (.goto 18) 3 47 := ⟨by decide +kernel, rfl⟩
theorem kX6_bestAt_47 : Dk mtX6_bestAt 47 (.iload_n 3) 1 48 := ⟨by decide +kernel, rfl⟩
theorem kX6_bestAt_48 : Dk mtX6_bestAt 48 (.iconst (-1)) 1 49 := ⟨by decide +kernel, rfl⟩
theorem kX6_bestAt_49 : Dk mtX6_bestAt 49 (.if_icmp .ne 7) 3 52 := ⟨by decide +kernel, rfl⟩
theorem kX6_bestAt_52 : Dk mtX6_bestAt 52 (.iconst 0) 1 53 := ⟨by decide +kernel, rfl⟩
theorem kX6_bestAt_53 : Dk mtX6_bestAt 53 (.goto 9) 3 56 := ⟨by decide +kernel, rfl⟩
theorem kX6_bestAt_56 : Dk mtX6_bestAt 56 (.aload_n 0) 1 57 := ⟨by decide +kernel, rfl⟩
theorem kX6_bestAt_57 : Dk mtX6_bestAt 57 (.iload_n 3) 1 58 := ⟨by decide +kernel, rfl⟩
theorem kX6_bestAt_58 : Dk mtX6_bestAt 58 (.iload_n 1) 1 59 := ⟨by decide +kernel, rfl⟩
theorem kX6_bestAt_59 : Dk mtX6_bestAt 59 (.invokevirtual 56) 3 62 := ⟨by decide +kernel, rfl⟩
theorem kX6_bestAt_62 : Dk mtX6_bestAt 62 (.ireturn) 1 63 := ⟨by decide +kernel, rfl⟩
theorem lmX6_194 : LkM RX6 194 mtX6_best := Or.inl (by decide +kernel)
theorem mkX6_best : MkV mtX6_best 1 := ⟨List.mem_of_getElem? (i := 1269) (by decide +kernel), by decide +kernel, by decide +kernel, by decide +kernel, ⟨by decide +kernel, by decide +kernel, by decide +kernel⟩⟩
set_option maxHeartbeats 4000000 in
set_option maxRecDepth 100000 in
theorem ct_bestAt {l : Launch} {w : Wd} {sg : Sg} (hWr : Wr w) {mo : Nat} (a b : Int32) (hI : Inv (sg (mo + 1))) : M l mtX6_bestAt w [vR (some (6, 0, mo)), vI a, vI b] sg (fM mo sg (K_bestAt a b) (R_bestAt (sg (mo + 1)) a b) sg) := by
  refine M_of [some (vR (some (6, 0, mo))), some (vI a), some (vI b), none] rfl (Nat.le_of_ble_eq_true rfl) (by decide +kernel) ?_
  intro p_ e_ s_ m_ args_ below_ meth_ c_ hC hO
  refine V_aload_n hC kX6_bestAt_0 rfl ?_
  refine V_iconst hC (0) kX6_bestAt_1 (by decide) ?_
  refine V_putI hC 6 0 lfX6_32 kX6_bestAt_2 (Nat.le_of_ble_eq_true rfl) (Nat.le_of_ble_eq_true rfl) rfl rfl ⟨rfl, rfl⟩ ?_
  refine V_nameS (fun sg0 e_sg0 => ?_)
  have hs1 : sg0 (mo + 1) = sg (mo + 1) := by rw [e_sg0]; exact upr_ne _ _ (by omega)
  refine V_iload_n hC kX6_bestAt_5 rfl ?_
  refine V_cS_fI hC (ct_isPlace hWr a) mkX6_isPlace lmX6_59 kX6_bestAt_6 rfl rfl (Nat.le_of_ble_eq_true rfl) ⟨(Nat.le_of_ble_eq_true rfl), (Nat.le_of_ble_eq_true rfl)⟩ ⟨rfl, rfl⟩ ⟨(Nat.le_of_ble_eq_true rfl), (Nat.le_of_ble_eq_true rfl)⟩ ?_
  refine V_if_ne hC 18 kX6_bestAt_9 (by decide) (fun h9 => ?_) (fun h9 => ?_)
  · refine V_iload_n hC kX6_bestAt_18 rfl ?_
    refine V_iconst hC (0) kX6_bestAt_19 (by decide) ?_
    refine V_iconst hC (1) kX6_bestAt_20 (by decide) ?_
    refine V_cS_fI hC (ct_in hWr _ _ _) mkX6_in lmX6_39 kX6_bestAt_21 rfl rfl (Nat.le_of_ble_eq_true rfl) ⟨(Nat.le_of_ble_eq_true rfl), (Nat.le_of_ble_eq_true rfl)⟩ ⟨rfl, rfl⟩ ⟨(Nat.le_of_ble_eq_true rfl), (Nat.le_of_ble_eq_true rfl)⟩ ?_
    refine V_if_ne hC 33 kX6_bestAt_24 (by decide) (fun h24 => ?_) (fun h24 => ?_)
    · have hK : K_bestAt a b = 0 := by rw [K_bestAt, if_pos (b01n.mp h9), if_pos (b01n.mp h24)]
      refine V_aload_n hC kX6_bestAt_33 rfl ?_
      refine V_iload_n hC kX6_bestAt_34 rfl ?_
      refine V_cV_fI hC (ct_best hWr a (by rw [hs1]; exact hI.hc4) (fun n hn => by rw [hs1] at hn ⊢; exact hI.ne hn)) mkX6_best lmX6_194 kX6_bestAt_35 (Nat.le_of_ble_eq_true rfl) rfl rfl rfl (Nat.le_of_ble_eq_true rfl) ⟨(Nat.le_of_ble_eq_true rfl), (Nat.le_of_ble_eq_true rfl)⟩ ⟨rfl, rfl⟩ ⟨(Nat.le_of_ble_eq_true rfl), (Nat.le_of_ble_eq_true rfl)⟩ ?_
      refine V_nameI (fun bs e_bs => ?_)
      refine V_istore_n hC [some _, some _, some _, some _] kX6_bestAt_38 rfl (Nat.le_of_ble_eq_true rfl) ?_
      refine V_iload_n hC kX6_bestAt_39 rfl ?_
      refine V_if_ne hC 47 kX6_bestAt_40 (by decide) (fun h40 => ?_) (fun h40 => ?_)
      · refine V_iload_n hC kX6_bestAt_47 rfl ?_
        refine V_iconst hC (-1) kX6_bestAt_48 (by decide) ?_
        refine V_icmp_ne hC 56 kX6_bestAt_49 (by decide) (fun h49 => ?_) (fun h49 => ?_)
        · obtain ⟨j, hj, ej⟩ : ∃ j, j < tn (sg (mo + 1) 4) ∧ bs = nI j := by
            rw [hs1] at e_bs
            rcases F_bestN_in (sg (mo + 1)) a (tn (sg (mo + 1) 4)) with z | z
            · exact absurd (e_bs.trans z) h49
            · obtain ⟨j, h1, h2⟩ := z
              exact ⟨j, h1, e_bs.trans h2⟩
          refine V_aload_n hC kX6_bestAt_56 rfl ?_
          refine V_iload_n hC kX6_bestAt_57 rfl ?_
          refine V_iload_n hC kX6_bestAt_58 rfl ?_
          refine V_cV_fI hC (ct_worth hWr bs a (by rw [ej]; exact vp_in_nI (by have := hI.c4.1; omega) (by decide)) (fun _ => by rw [hs1, ej]; exact hI.ne hj)) mkX6_worth lmX6_56 kX6_bestAt_59 (Nat.le_of_ble_eq_true rfl) rfl rfl rfl (Nat.le_of_ble_eq_true rfl) ⟨(Nat.le_of_ble_eq_true rfl), (Nat.le_of_ble_eq_true rfl)⟩ ⟨rfl, rfl⟩ ⟨(Nat.le_of_ble_eq_true rfl), (Nat.le_of_ble_eq_true rfl)⟩ ?_
          refine V_ireti hC rfl kX6_bestAt_62 ?_
          rw [hs1] at e_bs
          subst e_bs
          first
            | exact fM_ok hK (by rw [R_bestAt, if_pos h40]) e_sg0
            | exact fM_ok hK (by rw [R_bestAt, if_neg h40, if_pos h49]) e_sg0
            | exact fM_ok hK (by rw [hs1, R_bestAt, if_neg h40, if_neg h49]) e_sg0
        · refine V_iconst hC (0) kX6_bestAt_52 (by decide) ?_
          refine V_goto hC 62 kX6_bestAt_53 (by decide) ?_
          refine V_ireti hC rfl kX6_bestAt_62 ?_
          rw [hs1] at e_bs
          subst e_bs
          first
            | exact fM_ok hK (by rw [R_bestAt, if_pos h40]) e_sg0
            | exact fM_ok hK (by rw [R_bestAt, if_neg h40, if_pos h49]) e_sg0
            | exact fM_ok hK (by rw [hs1, R_bestAt, if_neg h40, if_neg h49]) e_sg0
      · refine V_iload_n hC kX6_bestAt_43 rfl ?_
        refine V_goto hC 62 kX6_bestAt_44 (by decide) ?_
        refine V_ireti hC rfl kX6_bestAt_62 ?_
        rw [hs1] at e_bs
        subst e_bs
        first
          | exact fM_ok hK (by rw [R_bestAt, if_pos h40]) e_sg0
          | exact fM_ok hK (by rw [R_bestAt, if_neg h40, if_pos h49]) e_sg0
          | exact fM_ok hK (by rw [hs1, R_bestAt, if_neg h40, if_neg h49]) e_sg0
    · refine V_aload_n hC kX6_bestAt_27 rfl ?_
      refine V_iconst hC (2) kX6_bestAt_28 (by decide) ?_
      refine V_cV_fI hC (ct_fails hWr 2) mkX6_fails lmX6_127 kX6_bestAt_29 (Nat.le_of_ble_eq_true rfl) rfl rfl rfl (Nat.le_of_ble_eq_true rfl) ⟨(Nat.le_of_ble_eq_true rfl), (Nat.le_of_ble_eq_true rfl)⟩ ⟨rfl, rfl⟩ ⟨(Nat.le_of_ble_eq_true rfl), (Nat.le_of_ble_eq_true rfl)⟩ ?_
      refine V_ireti hC rfl kX6_bestAt_32 ?_
      exact fM_no 2 (by rw [K_bestAt, if_pos (b01n.mp h9), if_neg (b01e.mp h24)]) (by decide) (by rw [e_sg0, ups_ups])
  · refine V_aload_n hC kX6_bestAt_12 rfl ?_
    refine V_iconst hC (1) kX6_bestAt_13 (by decide) ?_
    refine V_cV_fI hC (ct_fails hWr 1) mkX6_fails lmX6_127 kX6_bestAt_14 (Nat.le_of_ble_eq_true rfl) rfl rfl rfl (Nat.le_of_ble_eq_true rfl) ⟨(Nat.le_of_ble_eq_true rfl), (Nat.le_of_ble_eq_true rfl)⟩ ⟨rfl, rfl⟩ ⟨(Nat.le_of_ble_eq_true rfl), (Nat.le_of_ble_eq_true rfl)⟩ ?_
    refine V_ireti hC rfl kX6_bestAt_17 ?_
    exact fM_no 1 (by rw [K_bestAt, if_neg (b01e.mp h9)]) (by decide) (by rw [e_sg0, ups_ups])
def mtX6_setting : Mt := (yX6_setting, cX6_setting, 2, (some .int), 1, 22, 0, 0)
theorem kX6_setting_0 : Dk mtX6_setting 0 (.aload_n 0) 1 1 := ⟨by decide +kernel, rfl⟩
theorem kX6_setting_1 : Dk mtX6_setting 1 (.iconst 0) 1 2 := ⟨by decide +kernel, rfl⟩
theorem kX6_setting_2 : Dk mtX6_setting 2 (.putfield 32) 3 5 := ⟨by decide +kernel, rfl⟩
theorem kX6_setting_5 : Dk mtX6_setting 5 (.iload_n 1) 1 6 := ⟨by decide +kernel, rfl⟩
theorem kX6_setting_6 : Dk mtX6_setting 6 (.iconst 0) 1 7 := ⟨by decide +kernel, rfl⟩
theorem kX6_setting_7 : Dk mtX6_setting 7 (.iconst 3) 1 8 := ⟨by decide +kernel, rfl⟩
theorem kX6_setting_8 : Dk mtX6_setting 8 (.invokestatic 39) 3 11 := ⟨by decide +kernel, rfl⟩
theorem kX6_setting_11 : Dk mtX6_setting 11 (.ifCond .eq 12) 3 14 := ⟨by decide +kernel, rfl⟩
theorem kX6_setting_14 : Dk mtX6_setting 14 (.aload_n 0) 1 15 := ⟨by decide +kernel, rfl⟩
theorem kX6_setting_15 : Dk mtX6_setting 15 (.getfield 7) 3 18 := ⟨by decide +kernel, rfl⟩
theorem kX6_setting_18 : Dk mtX6_setting 18 (.iload_n 1) 1 19 := ⟨by decide +kernel, rfl⟩
theorem kX6_setting_19 : Dk mtX6_setting 19 (.iaload) 1 20 := ⟨by decide +kernel, rfl⟩
theorem kX6_setting_20 : Dk mtX6_setting 20 (.goto 8) 3 23 := ⟨by decide +kernel, rfl⟩
theorem kX6_setting_23 : Dk mtX6_setting 23 (.aload_n 0) 1 24 := ⟨by decide +kernel, rfl⟩
theorem kX6_setting_24 : Dk mtX6_setting 24 (.iconst 1) 1 25 := ⟨by decide +kernel, rfl⟩
theorem kX6_setting_25 : Dk mtX6_setting 25 (.invokevirtual 127) 3 28 := ⟨by decide +kernel, rfl⟩
theorem kX6_setting_28 : Dk mtX6_setting 28 (.ireturn) 1 29 := ⟨by decide +kernel, rfl⟩
set_option maxHeartbeats 4000000 in
set_option maxRecDepth 100000 in
theorem ct_setting {l : Launch} {w : Wd} {sg : Sg} (hWr : Wr w) {mo : Nat} (a : Int32) : M l mtX6_setting w [vR (some (6, 0, mo)), vI a] sg (fM mo sg (K_setting a) ((sg (mo + 1)) (tn a)) sg) := by
  refine M_of [some (vR (some (6, 0, mo))), some (vI a)] rfl (Nat.le_of_ble_eq_true rfl) (by decide +kernel) ?_
  intro p_ e_ s_ m_ args_ below_ meth_ c_ hC hO
  refine V_aload_n hC kX6_setting_0 rfl ?_
  refine V_iconst hC (0) kX6_setting_1 (by decide) ?_
  refine V_putI hC 6 0 lfX6_32 kX6_setting_2 (Nat.le_of_ble_eq_true rfl) (Nat.le_of_ble_eq_true rfl) rfl rfl ⟨rfl, rfl⟩ ?_
  refine V_nameS (fun sg0 e_sg0 => ?_)
  have hs1 : sg0 (mo + 1) = sg (mo + 1) := by rw [e_sg0]; exact upr_ne _ _ (by omega)
  refine V_iload_n hC kX6_setting_5 rfl ?_
  refine V_iconst hC (0) kX6_setting_6 (by decide) ?_
  refine V_iconst hC (3) kX6_setting_7 (by decide) ?_
  refine V_cS_fI hC (ct_in hWr _ _ _) mkX6_in lmX6_39 kX6_setting_8 rfl rfl (Nat.le_of_ble_eq_true rfl) ⟨(Nat.le_of_ble_eq_true rfl), (Nat.le_of_ble_eq_true rfl)⟩ ⟨rfl, rfl⟩ ⟨(Nat.le_of_ble_eq_true rfl), (Nat.le_of_ble_eq_true rfl)⟩ ?_
  refine V_if_eq hC 23 kX6_setting_11 (by decide) (fun h11 => ?_) (fun h11 => ?_)
  · refine V_aload_n hC kX6_setting_23 rfl ?_
    refine V_iconst hC (1) kX6_setting_24 (by decide) ?_
    refine V_cV_fI hC (ct_fails hWr 1) mkX6_fails lmX6_127 kX6_setting_25 (Nat.le_of_ble_eq_true rfl) rfl rfl rfl (Nat.le_of_ble_eq_true rfl) ⟨(Nat.le_of_ble_eq_true rfl), (Nat.le_of_ble_eq_true rfl)⟩ ⟨rfl, rfl⟩ ⟨(Nat.le_of_ble_eq_true rfl), (Nat.le_of_ble_eq_true rfl)⟩ ?_
    refine V_ireti hC rfl kX6_setting_28 ?_
    first
      | exact fM_no 1 (by rw [K_setting, if_neg (b01e.mp h11)]) (by decide) (by rw [e_sg0, ups_ups])
      | exact fM_ok (by rw [K_setting, if_pos (b01n.mp h11)]) (by rw [hs1]) e_sg0
  · refine V_aload_n hC kX6_setting_14 rfl ?_
    refine V_getR hC hWr 6 1 lfX6_7 kX6_setting_15 (Nat.le_of_ble_eq_true rfl) (Nat.le_of_ble_eq_true rfl) rfl ?_
    refine V_iload_n hC kX6_setting_18 rfl ?_
    refine V_iald hC _ rfl kX6_setting_19 (inn_vp (by decide) (b01n.mp h11)) ?_
    refine V_goto hC 28 kX6_setting_20 (by decide) ?_
    refine V_ireti hC rfl kX6_setting_28 ?_
    first
      | exact fM_no 1 (by rw [K_setting, if_neg (b01e.mp h11)]) (by decide) (by rw [e_sg0, ups_ups])
      | exact fM_ok (by rw [K_setting, if_pos (b01n.mp h11)]) (by rw [hs1]) e_sg0
