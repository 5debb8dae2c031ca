-- HOW ct_in fI
-- HOW ct_fails fI
-- HOW ct_of fI
-- HOW ct_ofBoat fI
-- HOW ct_layBoat fV
-- HOW ct_isLight fI
-- HOW ct_isBoat fI
-- HOW ct_isPlace fI
-- HOW ct_bright fI
-- HOW ct_worth fI
-- HOW ct_serves fI
-- HOW ct_best fI
-- HOW ct_sails fV
-- HOW ct_drops fV
-- HOW ct_wished fI
-- HOW ct_hands fV
-- HOW ct_wishes fV
-- HOW ct_finds fV
-- HOW ct_goesOn fV
-- HOW ct_goesTick fV
-- HOW ct_goesBy fI
-- HOW ct_putAside fV
-- HOW ct_takeBack fV
-- HOW ct_isLamp fI
-- HOW ct_addsLight fI
-- HOW ct_actsLight fI
-- HOW ct_addsBoat fI
-- HOW ct_actsBoat fI
-- HOW ct_actsSteer fI
-- HOW ct_canTalk fI
-- HOW ct_actsTalk fI
-- HOW ct_actsLean fI
-- HOW ct_actsDim fI
-- HOW ct_mostOf fI
-- HOW ct_isSetting fI
-- HOW ct_actsSet fI
-- HOW ct_actsTicks fI
-- HOW ct_boatsThat fI
-- HOW ct_servedBy fI
-- HOW ct_begins fV
-- HOW ct_tellsAbout fI
-- HOW ct_about fM
-- HOW ct_lightOf fM
-- HOW ct_boatOf fM
-- HOW ct_brightness fM
-- HOW ct_bestAt fM
-- HOW ct_setting fM
-- HOW ct_saves fV
-- HOW ct_light fM
-- HOW ct_boat fM
-- HOW ct_steer fM
-- HOW ct_talk fM
-- HOW ct_lean fM
-- HOW ct_dim fM
-- HOW ct_set fM
-- HOW ct_ticks fM
-- HOW ct_undo fM
-- HOW ct_save fM
-- HOW ct_restore fM
-- HOW ct_bringsBy fI
-- HOW ct_ifMargin fM
-- HOW ct_held fI
-- HOW ct_room fI
-- HOW ct_dark fI
-- HOW ct_turns fV
-- HOW ct_simulate fM
-- HOW ct_border fM
-- HOW ct_handedIn fM
-- HOW ct_bestMargin fM
-- HOW ct_thrown fI
-- HOW ct_sign fI
-- HOW ct_number fI
-- HOW ct_carriesLight fI
-- HOW ct_carries fI
-- HOW ct_isCommand fI
-- HOW ct_append fM
-- HOW ct_clearText fM
-- HOW ct_readsAll fV
-- HOW ct_errorPosition fI
-- HOW ct_load rI
-- HOW ct_pair fI
-- HOW ct_laysFigures fV
-- HOW ct_succeeds fI
-- HOW ct_runScript rI
-- HOW cl_isPlace fI
-- HOW cl_isSpeed fI
-- HOW cl_isStrength fI
-- HOW cl_isTickCount fI
-- HOW cl_isSetting fI
-- HOW cl_isSlot fI
-- HOW cl_isSettingValue fI
-- HOW cl_shown fI
-- HOW cl_withoutGroups fL
-- HOW cl_lbegin fV
-- HOW cl_lcopy fV
-- HOW cl_bcopy fV
-- HOW cl_lnum fI
-- HOW cl_bnum fI
-- HOW cl_bright fI
-- HOW cl_worth fI
-- HOW cl_bitCount fI
-- HOW cl_servedCount fI
-- HOW cl_takesHandedOn fI
-- HOW cl_takesOthers fI
-- HOW cl_bbegin fV
-- HOW cl_move fV
-- HOW cl_wishFor fV
-- HOW cl_lightR fR
-- HOW cl_lightN fR
-- HOW cl_boatR fR
-- HOW cl_boatN fR
-- HOW cl_setR fI
-- HOW cl_lightAt fR
-- HOW cl_lightAtNo fR
-- HOW cl_boatAt fR
-- HOW cl_boatAtNo fR
-- HOW cl_settingOf fI
-- HOW cl_servedBoats fI
-- HOW cl_talkingBoats fI
-- HOW cl_numberOf fI
-- HOW cl_brightest fI
-- HOW cl_isDark fI
-- HOW cl_freePlaces fI
-- HOW cl_isServing fI
-- HOW cl_isServingAtLeast fI
-- HOW cl_isBoatAt fI
-- HOW cl_lightFault fI
-- HOW cl_boatFault fI
-- HOW cl_steerFault fI
-- HOW cl_dimFault fI
-- HOW cl_leanFault fI
-- HOW cl_talkFault fI
-- HOW cl_putSpeed rI
-- HOW cl_putTalk rI
-- HOW cl_putLeaning rI
-- HOW cl_putStrength rI
-- HOW cl_putSetting rI
-- HOW cl_addLight rI
-- HOW cl_addBoat rI
-- HOW cl_tryLight rI
-- HOW cl_tryBoat rI
-- HOW cl_trySteer rI
-- HOW cl_tryTalk rI
-- HOW cl_tryLean rI
-- HOW cl_tryDim rI
-- HOW cl_trySet rI
-- HOW cl_serve rV
-- HOW cl_lose rV
-- HOW cl_bestWish fI
-- HOW cl_seekKeeper rV
-- HOW cl_ask rV
-- HOW cl_setW fI
-- HOW cl_sail rV
-- HOW cl_pass rV
-- HOW cl_reset rV
-- HOW cl_copyFrom rV
-- HOW cl_stateAt fR
-- HOW cl_slotAt fR
-- HOW cl_hasStates fI
-- HOW cl_mreset rV
-- HOW cl_remember rV
-- HOW cl_takeBack rI
-- HOW cl_isKept fI
-- HOW cl_keep rV
-- HOW cl_bring rV
-- HOW cl_isFull fI
-- HOW cl_add fI
-- HOW cl_empty fI
-- HOW cl_hasMore fI
-- HOW cl_signAt fI
-- HOW cl_number fI
-- HOW cl_formOf fR
-- HOW cl_readNumber fI
-- HOW cl_formY fR
-- HOW cl_formN fR
-- HOW cl_readHead fI
-- HOW cl_readCommand rI
-- HOW cl_errorPlace rI
-- HOW cl_gained fI
-- HOW cl_tryMargin rV
-- HOW cl_until rI
-- HOW cl_dark fI
-- HOW cl_room fI
-- HOW cl_takeTurn rV
-- HOW cl_runCommand rI
-- HOW cl_obey rI
-- HOW cl_throwFault xV
-- HOW cf_about xI
-- HOW cf_lightOf xI
-- HOW cf_boatOf xI
-- HOW cf_brightness xI
-- HOW cf_bestAt xI
-- HOW cf_setting xI
-- HOW cf_light xI
-- HOW cf_boat xI
-- HOW cf_steer xI
-- HOW cf_talk xI
-- HOW cf_lean xI
-- HOW cf_dim xI
-- HOW cf_set xI
-- HOW cf_ticks xI
-- HOW cf_undo xI
-- HOW cf_save xI
-- HOW cf_restore xI
-- HOW cf_append xI
-- HOW cf_clearText fI
-- HOW cf_ifMargin xI
-- HOW cf_handedIn xI
-- HOW cf_errorPosition rI
-- HOW cf_simulate xI
-- HOW cf_border xI
-- HOW cf_bestMargin xI
-- HOW cf_runScript xI
-- HOW cf_load xI
/-! the class's face: load -/
theorem r0_12 (tx c : Gs) (d : Int32) : F_r0 tx c d 12 = 0 := by
  show upd (upd (F_ra c d) 10 _) 9 _ 12 = 0
  rw [pk_un (by decide), pk_un (by decide)]
  show upd (upd (upd c 9 0) 12 0) 11 d 12 = 0
  rw [pk_un (by decide), upd_v, if_pos rfl]
theorem step_bad {tx : Gs} {q : Gs × Gs} (h : cNext tx q.1 10 = 0) : (F_rstep tx q).1 12 = q.1 12 ∧ (F_rstep tx q).2 = q.2 := by
  unfold cNext at h
  unfold F_rstep
  by_cases hc : cCmd (F_sign q.1 tx)
  · rw [if_pos hc] at h
    have hP : ¬ P_obey tx (F_sign q.1 tx) (F_rc tx q.1) := fun z => z.1 h
    have hR : R_carries tx (F_sign q.1 tx) (F_rc tx q.1) q.2 = 0 := if_neg hP
    have hG : G_carries tx (F_sign q.1 tx) (F_rc tx q.1) q.2 = q.2 := if_neg hP
    have e0 : b01 ((0 : Int32) = -1) = 0 := by decide
    rw [if_pos hc, hR, hG, e0]
    refine ⟨?_, rfl⟩
    dsimp only
    refine (upd_v _ _ _ _).trans ((if_pos rfl).trans ?_)
    rw [Int32.add_zero]
    exact rc_un tx q.1 (by decide)
  · rw [if_neg hc]
    exact ⟨rc_un tx q.1 (j := 12) (by decide), rfl⟩
theorem step_ok {tx : Gs} {q : Gs × Gs} (h : ¬ cNext tx q.1 10 = 0) (hc : cCmd (F_sign q.1 tx)) (h11 : q.1 11 = 1) : (F_rstep tx q).1 12 = q.1 12 + b01 (F_obR q.2 (F_sign q.1 tx) (F_vals tx (F_sign q.1 tx) (F_rc tx q.1)) = -1) ∧ (F_rstep tx q).2 = F_obG q.2 (F_sign q.1 tx) (F_vals tx (F_sign q.1 tx) (F_rc tx q.1)) := by
  unfold cNext at h
  rw [if_pos hc] at h
  have h1 : F_rd tx (F_sign q.1 tx) (F_rc tx q.1) 11 = 1 := by rw [rd_un (by decide), rc_un tx q.1 (j := 11) (by decide), h11]
  have hP : P_obey tx (F_sign q.1 tx) (F_rc tx q.1) := ⟨h, by rw [h1]; decide⟩
  have hR : R_carries tx (F_sign q.1 tx) (F_rc tx q.1) q.2 = F_obR q.2 (F_sign q.1 tx) (F_vals tx (F_sign q.1 tx) (F_rc tx q.1)) := if_pos hP
  have hG : G_carries tx (F_sign q.1 tx) (F_rc tx q.1) q.2 = F_obG q.2 (F_sign q.1 tx) (F_vals tx (F_sign q.1 tx) (F_rc tx q.1)) := if_pos hP
  unfold F_rstep
  rw [if_pos hc, hR, hG]
  refine ⟨?_, rfl⟩
  dsimp only
  refine (upd_v _ _ _ _).trans ((if_pos rfl).trans ?_)
  rw [rc_un tx q.1 (j := 12) (by decide)]
theorem vt_rng {tx c : Gs} (h : ¬ cNext tx c 10 = 0) (hc : cCmd (F_sign c tx)) : F_sign c tx = 116 → inn (F_vals tx (F_sign c tx) (F_rc tx c) 0) 1 60 := by
  intro e
  unfold cNext at h
  rw [if_pos hc, e] at h
  rw [e]
  have hf : fm 116 0 = (2, 1, 60) := by decide +kernel
  have hn : nfm 116 = 1 := by decide +kernel
  have h1 : F_rd tx 116 (F_rc tx c) = (F_num tx 1 60 2 (F_rc tx c)).2 := by rw [F_rd, hn, F_nms_s hf]; rfl
  have h2 : F_vals tx 116 (F_rc tx c) 0 = (F_num tx 1 60 2 (F_rc tx c)).1 := by rw [F_vals, F_nms_s hf]; rfl
  rw [h1] at h
  rw [h2]
  obtain ⟨r1, r2⟩ := num_rng (by decide) h
  obtain ⟨y, hy, ey⟩ := num_val (by decide) h
  rw [ey] at r1 r2 ⊢
  refine ⟨?_, r1⟩
  have r3 : nI 1 < nI (y + 1) := by rw [nI_succ y]; exact r2
  have := (nI_ltI (by decide) (by omega)).mp r3
  exact nI_le (a := 1) (b := y) (by omega) (by omega)
theorem place_m1 {c : Gs} {n : Nat} (h : TI c) : ¬ c 9 = -1 := by
  obtain ⟨a, m, t1, t2, t3, t4⟩ := h
  rw [t1]
  exact nI_m1 (by omega)
/-- what load leaves alone -/
def F3 (x : Nat) (sg g2 : Sg) : Prop := (∀ k, (k < x + 1 ∨ x + 331 ≤ k ∨ k = x + 2 ∨ (x + 22 ≤ k ∧ k < x + 40)) → g2 k = sg k) ∧ g2 (x + 1) 2 = sg (x + 1) 2
def LV (x : Nat) (sg : Sg) (G Sm : Nat → Gs) (q : Gs × Gs) (b : Sg) : Prop := F3 x sg b ∧ b (x + 1) 3 = q.1 9 ∧ Rel b (x + 4) q.2 ∧ MRel b (x + 40) 0 G (fun _ => false) Sm
theorem LV_t {x : Nat} {sg b g2 : Sg} {G Sm : Nat → Gs} {q q' : Gs × Gs} (h : LV x sg G Sm q b) (hI : Inv q.2) (e : ∀ k, k ≠ x + 1 → k ≠ x + 1 + 2 → g2 k = b k) (e2 : g2 (x + 1) 2 = b (x + 1) 2) (e3 : g2 (x + 1) 3 = q'.1 9) (eq : q'.2 = q.2) : LV x sg G Sm q' g2 :=
  ⟨⟨fun k hk => (e k (by omega) (by omega)).trans (h.1.1 k hk), e2.trans h.1.2⟩, e3, by rw [eq]; exact h.2.2.1.fr hI.cn (fun k _ _ => e k (by omega) (by omega)), h.2.2.2.fr (fun k _ _ => e k (by omega) (by omega))⟩
theorem LV_o {x : Nat} {sg b g2 : Sg} {G Sm : Nat → Gs} {q q' : Gs × Gs} (h : LV x sg G Sm q b) (hR : Rel g2 (x + 4) q'.2) (hF : Fr (x + 4) b g2) (e : q'.1 9 = q.1 9) : LV x sg G Sm q' g2 := by
  have e1 : g2 (x + 1) = b (x + 1) := hF _ (Or.inl (by omega))
  exact ⟨⟨fun k hk => (hF k (by omega)).trans (h.1.1 k hk), by rw [e1]; exact h.1.2⟩, by rw [e1, e]; exact h.2.1, hR, h.2.2.2.fr (fun k _ _ => hF k (Or.inr (by omega)))⟩
def F4 (x : Nat) (sg g2 : Sg) : Prop := (∀ k, k ≠ x + 1 → k ≠ x + 1 + 2 → g2 k = sg k) ∧ g2 (x + 1) 2 = sg (x + 1) 2
def mtX5_load : Mt := (yX5_load, cX5_load, 4, (some .int), 7, 221, 1, 6)
theorem kX5_load_0 : Dk mtX5_load 0 (.aload_n 0) 1 1 := ⟨by decide +kernel, rfl⟩
theorem kX5_load_1 : Dk mtX5_load 1 (.getfield 10) 3 4 := ⟨by decide +kernel, rfl⟩
theorem kX5_load_4 : Dk mtX5_load 4 (.invokevirtual 57) 3 7 := ⟨by decide +kernel, rfl⟩
theorem kX5_load_7 : Dk mtX5_load 7 (.iconst (-1)) 1 8 := ⟨by decide +kernel, rfl⟩
theorem kX5_load_8 : Dk mtX5_load 8 (.if_icmp .eq 13) 3 11 := ⟨by decide +kernel, rfl⟩
theorem kX5_load_11 : Dk mtX5_load 11 (.new 44) 3 14 := ⟨by decide +kernel, rfl⟩
theorem kX5_load_14 : Dk mtX5_load 14 (.dup) 1 15 := ⟨by decide +kernel, rfl⟩
theorem kX5_load_15 : Dk mtX5_load 15 (.ldc 60) 2 17 := ⟨by decide +kernel, rfl⟩
theorem kX5_load_17 : Dk mtX5_load 17 (.invokespecial 48) 3 20 := ⟨by decide +kernel, rfl⟩
theorem kX5_load_20 : Dk mtX5_load 20 (.athrow) 1 21 := ⟨by decide +kernel, rfl⟩
theorem kX5_load_21 : Dk mtX5_load 21 (.aload_n 0) 1 22 := ⟨by decide +kernel, rfl⟩
theorem kX5_load_22 : Dk mtX5_load 22 (.getfield 19) 3 25 := ⟨by decide +kernel, rfl⟩
theorem kX5_load_25 : Dk mtX5_load 25 (.invokevirtual 62) 3 28 := ⟨by decide +kernel, rfl⟩
theorem kX5_load_28 : Dk mtX5_load 28 (.aload_n 0) 1 29 := ⟨by decide +kernel, rfl⟩
theorem kX5_load_29 : Dk mtX5_load 29 (.getfield 29) 3 32 := ⟨by decide +kernel, rfl⟩
theorem kX5_load_32 : Dk mtX5_load 32 (.invokevirtual 65) 3 35 := ⟨by decide +kernel, rfl⟩
theorem kX5_load_35 : Dk mtX5_load 35 (.iconst 0) 1 36 := ⟨by decide +kernel, rfl⟩
theorem kX5_load_36 : Dk mtX5_load 36 (.istore_n 1) 1 37 := ⟨by decide +kernel, rfl⟩
theorem kX5_load_37 : Dk mtX5_load 37 (.aload_n 0) 1 38 := ⟨by decide +kernel, rfl⟩
theorem kX5_load_38 : Dk mtX5_load 38 (.getfield 10) 3 41 := ⟨by decide +kernel, rfl⟩
theorem kX5_load_41 : Dk mtX5_load 41 (.invokevirtual 66) 3 44 := ⟨by decide +kernel, rfl⟩
theorem kX5_load_44 : Dk mtX5_load 44 (.istore_n 2) 1 45 := ⟨by decide +kernel, rfl⟩
theorem kX5_load_45 : Dk mtX5_load 45 (.iconst 0) 1 46 := ⟨by decide +kernel, rfl⟩
theorem kX5_load_46 : Dk mtX5_load 46 (.istore_n 3) 1 47 := ⟨by decide +kernel, rfl⟩
theorem kX5_load_47 : Dk mtX5_load 47 (.iload_n 3) 1 48 := ⟨by decide +kernel, rfl⟩
theorem kX5_load_48 : Dk mtX5_load 48 (.bipush 120) 2 50 := ⟨by decide +kernel, rfl⟩
theorem kX5_load_50 : Dk mtX5_load 50 (.if_icmp .ge 53) 3 53 := ⟨by decide +kernel, rfl⟩
theorem kX5_load_53 : Dk mtX5_load 53 (.iload_n 2) 1 54 := ⟨by decide +kernel, rfl⟩
theorem kX5_load_54 : Dk mtX5_load 54 (.ifCond .eq 49) 3 57 := ⟨by decide +kernel, rfl⟩
theorem kX5_load_57 : Dk mtX5_load 57 (.aload_n 0) 1 58 := ⟨by decide +kernel, rfl⟩
theorem kX5_load_58 : Dk mtX5_load 58 (.getfield 10) 3 61 := ⟨by decide +kernel, rfl⟩
theorem kX5_load_61 : Dk mtX5_load 61 (.invokevirtual 69) 3 64 := ⟨by decide +kernel, rfl⟩
theorem kX5_load_64 : Dk mtX5_load 64 (.ifCond .eq 17) 3 67 := ⟨by decide +kernel, rfl⟩
theorem kX5_load_67 : Dk mtX5_load 67 (.aload_n 0) 1 68 := ⟨by decide +kernel, rfl⟩
theorem kX5_load_68 : Dk mtX5_load 68 (.getfield 10) 3 71 := ⟨by decide +kernel, rfl⟩
theorem kX5_load_71 : Dk mtX5_load 71 (.invokevirtual 72) 3 74 := ⟨by decide +kernel, rfl⟩
theorem kX5_load_74 : Dk mtX5_load 74 (.ifCond .eq 7) 3 77 := ⟨by decide +kernel, rfl⟩
theorem kX5_load_77 : Dk mtX5_load 77 (.iconst 1) 1 78 := ⟨by decide +kernel, rfl⟩
theorem kX5_load_78 : Dk mtX5_load 78 (.goto 4) 3 81 := ⟨by decide +kernel, rfl⟩
theorem kX5_load_81 : Dk mtX5_load 81 (.iconst 0) 1 82 := ⟨by decide +kernel, rfl⟩
theorem kX5_load_82 : Dk mtX5_load 82 (.istore_n 2) 1 83 := ⟨by decide +kernel, rfl⟩
theorem kX5_load_83 : Dk mtX5_load 83 (.iload_n 2) 1 84 := ⟨by decide +kernel, rfl⟩
theorem kX5_load_84 : Dk mtX5_load 84 (.ifCond .eq 13) 3 87 := ⟨by decide +kernel, rfl⟩
theorem kX5_load_87 : Dk mtX5_load 87 (.aload_n 0) 1 88 := ⟨by decide +kernel, rfl⟩
theorem kX5_load_88 : Dk mtX5_load 88 (.invokevirtual 75) 3 91 := ⟨by decide +kernel, rfl⟩
theorem kX5_load_91 : Dk mtX5_load 91 (.ifCond .ne 6) 3 94 := ⟨by decide +kernel, rfl⟩
theorem kX5_load_94 : Dk mtX5_load 94 (.iinc 1 1) 3 97 := ⟨by decide +kernel, rfl⟩
theorem kX5_load_97 : Dk mtX5_load 97 (.iinc 3 1) 3 100 := ⟨by decide +kernel, rfl⟩
theorem kX5_load_100 : Dk mtX5_load 100 (.goto (-53)) 3 103 := ⟨by decide +kernel, rfl⟩
theorem kX5_load_103 : Dk mtX5_load 103 (.iload_n 1) 1 104 := ⟨by decide +kernel, rfl⟩
theorem kX5_load_104 : Dk mtX5_load 104 (.ireturn) 1 105 := ⟨by decide +kernel, rfl⟩
theorem lmX5_62 : LkM RX5 62 mtX1_reset := Or.inr (by decide +kernel)
theorem mkX1_reset : MkV mtX1_reset 0 := ⟨List.mem_of_getElem? (i := 219) (by decide +kernel), by decide +kernel, by decide +kernel, by decide +kernel, ⟨by decide +kernel, by decide +kernel, by decide +kernel⟩⟩
theorem lmX5_65 : LkM RX5 65 mtX3_reset := Or.inl (by decide +kernel)
theorem mkX3_reset : MkV mtX3_reset 0 := ⟨List.mem_of_getElem? (i := 498) (by decide +kernel), by decide +kernel, by decide +kernel, by decide +kernel, ⟨by decide +kernel, by decide +kernel, by decide +kernel⟩⟩
theorem lmX5_66 : LkM RX5 66 mtX4_readHead := Or.inl (by decide +kernel)
theorem lmX5_69 : LkM RX5 69 mtX4_hasMore := Or.inl (by decide +kernel)
theorem lmX5_72 : LkM RX5 72 mtX4_readCommand := Or.inl (by decide +kernel)
theorem lmX5_75 : LkM RX5 75 mtX5_obeyCommand := Or.inl (by decide +kernel)
theorem mkX5_obeyCommand : MkV mtX5_obeyCommand 0 := ⟨List.mem_of_getElem? (i := 505) (by decide +kernel), by decide +kernel, by decide +kernel, by decide +kernel, ⟨by decide +kernel, by decide +kernel, by decide +kernel⟩⟩
set_option maxHeartbeats 4000000 in
set_option maxRecDepth 100000 in
theorem cf_load {l : Launch} {w : Wd} {sg : Sg} (hWr : Wr w) (hl0 : l.stackTraces = false) {x : Nat} {g gg g0 : Gs} (hR : Rel sg (x + 4) g) (hI : Inv g) {Nm : Nat} {G : Nat → Gs} {K : Nat → Bool} {Sm : Nat → Gs} (hm : MRel sg (x + 40) Nm G K Sm) {n : Nat} {tx : Gs} (hT : TR sg (x + 1) tx n) {c c1 : Gs} (hc8 : c 8 = nI n) (hc1 : c1 8 = nI n) (hI0 : Inv g0) : MX l mtX5_load w [vR (some (5, 0, x))] sg (rI (fun r g2 => ¬ (F_reads tx c g0 0).1 10 = 0 ∧ r = (F_reads tx c1 (F_begins gg) 1).1 12 ∧ F3 x sg g2 ∧ Rel g2 (x + 4) (F_reads tx c1 (F_begins gg) 1).2 ∧ MRel g2 (x + 40) 0 G (fun _ => false) Sm)) (fun E g2 => (F_reads tx c g0 0).1 10 = 0 ∧ E = "java/lang/IllegalStateException" ∧ F4 x sg g2) := by
  refine MX_of hl0 [some (vR (some (5, 0, x))), none, none, none] rfl (Nat.le_of_ble_eq_true rfl) (by decide +kernel) ?_
  intro p_ e_ s_ m_ args_ below_ meth_ c_ hC hX hO
  have hn := hT.2.1
  have hTIc : TI ((F_reads tx c g0 0).1) := by
    obtain ⟨S, N, -, hRd, -, -, hTi0, -⟩ := rds_all tx c g0 0 hn hc8 hI0
    rw [hRd]
    exact hTi0 N (Nat.le_refl _)
  obtain ⟨S, N, hS0, hRd, hNo, hgo0, hTi0, hIi0, hst, hN, h8S, h11⟩ := rds_more tx c1 (F_begins gg) 1 hn hc1 (Inv_begins gg)
  refine V_aload_n hC kX5_load_0 rfl ?_
  refine V_getR hC hWr 5 0 lfX5_10 kX5_load_1 (Nat.le_of_ble_eq_true rfl) (Nat.le_of_ble_eq_true rfl) rfl ?_
  refine V_cV_rI hC (cl_errorPlace hWr hT hc8 hI0) mkX4_errorPlace lmX5_57 kX5_load_4 (Nat.le_of_ble_eq_true rfl) rfl rfl rfl (Nat.le_of_ble_eq_true rfl) ⟨(Nat.le_of_ble_eq_true rfl), (Nat.le_of_ble_eq_true rfl)⟩ ⟨rfl, rfl⟩ ⟨(Nat.le_of_ble_eq_true rfl), (Nat.le_of_ble_eq_true rfl)⟩ (fun x4 g4 h4 => ?_)
  refine V_iconst hC (-1) kX5_load_7 (by decide) ?_
  refine V_icmp_eq hC 21 kX5_load_8 (by decide) (fun h8 => ?_) (fun h8 => ?_)
  · have hK : ¬ (F_reads tx c g0 0).1 10 = 0 := fun z => place_m1 (n := n) hTIc ((if_pos z).symm.trans (h4.1.symm.trans h8))
    have hR4 : Rel g4 (x + 4) g := hR.fr hI.cn (fun k _ _ => h4.2.1 k (by omega) (by omega))
    refine V_aload_n hC kX5_load_21 rfl ?_
    refine V_getR hC hWr 5 1 lfX5_19 kX5_load_22 (Nat.le_of_ble_eq_true rfl) (Nat.le_of_ble_eq_true rfl) rfl ?_
    refine V_cV_rV hC (cl_reset hWr gg hR4.2.2.2.2) mkX1_reset lmX5_62 kX5_load_25 (Nat.le_of_ble_eq_true rfl) rfl rfl rfl (Nat.le_of_ble_eq_true rfl) ⟨(Nat.le_of_ble_eq_true rfl), (Nat.le_of_ble_eq_true rfl)⟩ ⟨rfl, rfl⟩ ⟨(Nat.le_of_ble_eq_true rfl), (Nat.le_of_ble_eq_true rfl)⟩ (fun g25 h25 => ?_)
    refine V_aload_n hC kX5_load_28 rfl ?_
    refine V_getR hC hWr 5 3 lfX5_29 kX5_load_29 (Nat.le_of_ble_eq_true rfl) (Nat.le_of_ble_eq_true rfl) rfl ?_
    have hm25 : MRel g25 (x + 40) Nm G K Sm := hm.fr (fun k k1 k2 => (h25.2 k (Or.inr (by omega))).trans (h4.2.1 k (by omega) (by omega)))
    refine V_cV_rV hC (cl_mreset hWr hm25) mkX3_reset lmX5_65 kX5_load_32 (Nat.le_of_ble_eq_true rfl) rfl rfl rfl (Nat.le_of_ble_eq_true rfl) ⟨(Nat.le_of_ble_eq_true rfl), (Nat.le_of_ble_eq_true rfl)⟩ ⟨rfl, rfl⟩ ⟨(Nat.le_of_ble_eq_true rfl), (Nat.le_of_ble_eq_true rfl)⟩ (fun g32 h32 => ?_)
    refine V_iconst hC (0) kX5_load_35 (by decide) ?_
    refine V_istore_n hC [some _, some _, none, none] kX5_load_36 rfl (Nat.le_of_ble_eq_true rfl) ?_
    refine V_aload_n hC kX5_load_37 rfl ?_
    refine V_getR hC hWr 5 0 lfX5_10 kX5_load_38 (Nat.le_of_ble_eq_true rfl) (Nat.le_of_ble_eq_true rfl) rfl ?_
    have e32 : ∀ k, k < x + 4 → k ≠ x + 1 → k ≠ x + 3 → g32 k = sg k := fun k k1 k2 k3 => (h32.2 k (by omega)).trans ((h25.2 k (Or.inl k1)).trans (h4.2.1 k k2 k3))
    have f32 : g32 (x + 1) 2 = sg (x + 1) 2 := by rw [h32.2 _ (by omega), h25.2 _ (Or.inl (by omega)), h4.2.2]
    have hT32 : TR g32 (x + 1) tx n := hT.fr f32 (e32 _ (by omega) (by omega) (by omega))
    refine V_cV_fI hC (cl_readHead hWr hT32 hc1 1) mkX4_readHead lmX5_66 kX5_load_41 (Nat.le_of_ble_eq_true rfl) rfl rfl rfl (Nat.le_of_ble_eq_true rfl) ⟨(Nat.le_of_ble_eq_true rfl), (Nat.le_of_ble_eq_true rfl)⟩ ⟨rfl, rfl⟩ ⟨(Nat.le_of_ble_eq_true rfl), (Nat.le_of_ble_eq_true rfl)⟩ ?_
    refine V_nameI (fun go0 e_go0 => ?_)
    refine V_istore_n hC [some _, some _, some _, none] kX5_load_44 rfl (Nat.le_of_ble_eq_true rfl) ?_
    replace e_go0 : go0 = b01 (¬ (S 0).1 10 = 0) := e_go0.trans (by rw [hS0]; show _ = b01 (¬ F_r0 tx c1 1 10 = 0); rw [r0_10, b01_b01])
    subst e_go0
    refine V_iconst hC (0) kX5_load_45 (by decide) ?_
    refine V_istore_n hC [some _, some _, some _, some _] kX5_load_46 rfl (Nat.le_of_ble_eq_true rfl) ?_
    refine V_nameS (fun s1 e_s1 => ?_)
    have u1 : ∀ k, k ≠ x + 1 → s1 k = g32 k := fun k hk => by rw [e_s1]; exact ups_ne _ _ _ hk
    have u2 : s1 (x + 1) 2 = sg (x + 1) 2 := by rw [e_s1, ups_v, if_neg (by omega)]; exact f32
    have hB0 : LV x sg G Sm (S 0) s1 := by
      rw [hS0]
      refine ⟨⟨fun k hk => ?_, u2⟩, by rw [e_s1]; exact ups_s _ _ _ _, (h25.1.fr (Inv_begins gg).cn (fun k k1 k2 => ?_)), h32.1.fr (fun k k1 k2 => u1 k (by omega))⟩
      · exact (u1 k (by omega)).trans ((h32.2 k (by omega)).trans ((h25.2 k (by omega)).trans (h4.2.1 k (by omega) (by omega))))
      · exact (u1 k (by omega)).trans (h32.2 k (by omega))
    have l12 : (S 0).1 12 = 0 := by rw [hS0]; exact r0_12 tx c1 1
    refine V_loopR N (fun i b => LV x sg G Sm (S i) b) (fun i _ => [some (vR (some (5, 0, x))), some (vI ((S i).1 12)), some (vI (b01 (¬ (S i).1 10 = 0))), some (vI (nI i))]) (fun _ b => b) s1 (by show _ = [some (vR (some (5, 0, x))), some (vI ((S 0).1 12)), some (vI (b01 (¬ (S 0).1 10 = 0))), some (vI (nI 0))]; rw [l12]; rfl) rfl hB0 (fun b hb => ?_) (fun i b hi hb ih => ?_)
    · obtain ⟨a, m, t1, t2, t3, t4⟩ := hTi0 N (Nat.le_refl _)
      have em : m = n := (nI_eq (by omega) (by omega)).mp (t2.symm.trans (h8S N))
      subst em
      refine V_iload_n hC kX5_load_47 rfl ?_
      refine V_bipush hC (120) kX5_load_48 (by decide) ?_
      refine V_icmp_ge hC 103 kX5_load_50 (by decide) (fun h50 => ?_) (fun h50 => ?_)
      · refine V_iload_n hC kX5_load_103 rfl ?_
        refine V_iretiX hC rfl kX5_load_104 ⟨(Nat.le_of_ble_eq_true rfl), (Nat.le_of_ble_eq_true rfl)⟩ ?_
        exact ⟨_, by with_reducible rfl, hK, by rw [hRd], hb.1, by rw [hRd]; exact hb.2.2.1, hb.2.2.2⟩
      · refine V_iload_n hC kX5_load_53 rfl ?_
        refine V_if_eq hC 103 kX5_load_54 (by decide) (fun h54 => ?_) (fun h54 => ?_)
        · refine V_iload_n hC kX5_load_103 rfl ?_
          refine V_iretiX hC rfl kX5_load_104 ⟨(Nat.le_of_ble_eq_true rfl), (Nat.le_of_ble_eq_true rfl)⟩ ?_
          exact ⟨_, by with_reducible rfl, hK, by rw [hRd], hb.1, by rw [hRd]; exact hb.2.2.1, hb.2.2.2⟩
        · refine V_aload_n hC kX5_load_57 rfl ?_
          refine V_getR hC hWr 5 0 lfX5_10 kX5_load_58 (Nat.le_of_ble_eq_true rfl) (Nat.le_of_ble_eq_true rfl) rfl ?_
          refine V_cV_fI hC (cl_hasMore hWr (t := x + 1) (a := a) (n := m) (by rw [hb.1.2, hT.1]) (by rw [hb.2.1, t1]) t4 t3) mkX4_hasMore lmX5_69 kX5_load_61 (Nat.le_of_ble_eq_true rfl) rfl rfl rfl (Nat.le_of_ble_eq_true rfl) ⟨(Nat.le_of_ble_eq_true rfl), (Nat.le_of_ble_eq_true rfl)⟩ ⟨rfl, rfl⟩ ⟨(Nat.le_of_ble_eq_true rfl), (Nat.le_of_ble_eq_true rfl)⟩ ?_
          refine V_if_eq hC 81 kX5_load_64 (by decide) (fun h64 => ?_) (fun h64 => absurd h64 (fun z => hNo ⟨fun q => h54 (b01_f (fun y => y q)), by rw [t1, t2]; exact (nI_ltI (by omega) (by omega)).mpr (b01n.mp z)⟩))
          refine V_iconst hC (0) kX5_load_81 (by decide) ?_
          refine V_istore_n hC [some _, some _, some _, some _] kX5_load_82 rfl (Nat.le_of_ble_eq_true rfl) ?_
          refine V_iload_n hC kX5_load_83 rfl ?_
          refine V_if_eq hC 97 kX5_load_84 (by decide) (fun h84 => ?_) (fun h84 => absurd h84 (not_not_intro rfl))
          refine V_iinc hC (_ + 1) [some _, some _, some _, some _] kX5_load_97 rfl rfl rfl (Nat.le_of_ble_eq_true rfl) ?_
          refine V_goto hC 47 kX5_load_100 (by decide) ?_
          refine V_iload_n hC kX5_load_47 rfl ?_
          refine V_bipush hC (120) kX5_load_48 (by decide) ?_
          refine V_icmp_ge hC 103 kX5_load_50 (by decide) (fun h50 => ?_) (fun h50 => ?_)
          · refine V_iload_n hC kX5_load_103 rfl ?_
            refine V_iretiX hC rfl kX5_load_104 ⟨(Nat.le_of_ble_eq_true rfl), (Nat.le_of_ble_eq_true rfl)⟩ ?_
            exact ⟨_, by with_reducible rfl, hK, by rw [hRd], hb.1, by rw [hRd]; exact hb.2.2.1, hb.2.2.2⟩
          · refine V_iload_n hC kX5_load_53 rfl ?_
            refine V_if_eq hC 103 kX5_load_54 (by decide) (fun h54 => ?_) (fun h54 => absurd h54 (not_not_intro rfl))
            refine V_iload_n hC kX5_load_103 rfl ?_
            refine V_iretiX hC rfl kX5_load_104 ⟨(Nat.le_of_ble_eq_true rfl), (Nat.le_of_ble_eq_true rfl)⟩ ?_
            exact ⟨_, by with_reducible rfl, hK, by rw [hRd], hb.1, by rw [hRd]; exact hb.2.2.1, hb.2.2.2⟩
    · have hgo := hgo0 i hi
      have hTi := hTi0 i (Nat.le_of_lt hi)
      obtain ⟨a, m, t1, t2, t3, t4⟩ := id hTi
      have em : m = n := (nI_eq (by omega) (by omega)).mp (t2.symm.trans (h8S i))
      subst em
      have ham : a < m := (nI_ltI (by omega) (by omega)).mp (by rw [← t1, ← t2]; exact hgo.2)
      have hT2 : TR b (x + 1) tx m := hT.fr hb.1.2 (hb.1.1 _ (by omega))
      refine V_iload_n hC kX5_load_47 rfl ?_
      refine V_bipush hC (120) kX5_load_48 (by decide) ?_
      refine V_icmp_ge hC 103 kX5_load_50 (by decide) (fun h50 => absurd h50 (by exact nI_ge (b := 120) (hN i hi) (by decide))) (fun h50 => ?_)
      refine V_iload_n hC kX5_load_53 rfl ?_
      refine V_if_eq hC 103 kX5_load_54 (by decide) (fun h54 => absurd h54 (fun z => b01e.mp z hgo.1)) (fun h54 => ?_)
      refine V_aload_n hC kX5_load_57 rfl ?_
      refine V_getR hC hWr 5 0 lfX5_10 kX5_load_58 (Nat.le_of_ble_eq_true rfl) (Nat.le_of_ble_eq_true rfl) rfl ?_
      refine V_cV_fI hC (cl_hasMore hWr (t := x + 1) (a := a) (n := m) (by rw [hb.1.2, hT.1]) (by rw [hb.2.1, t1]) t4 t3) mkX4_hasMore lmX5_69 kX5_load_61 (Nat.le_of_ble_eq_true rfl) rfl rfl rfl (Nat.le_of_ble_eq_true rfl) ⟨(Nat.le_of_ble_eq_true rfl), (Nat.le_of_ble_eq_true rfl)⟩ ⟨rfl, rfl⟩ ⟨(Nat.le_of_ble_eq_true rfl), (Nat.le_of_ble_eq_true rfl)⟩ ?_
      refine V_if_eq hC 81 kX5_load_64 (by decide) (fun h64 => absurd h64 (fun z => b01e.mp z ham)) (fun h64 => ?_)
      refine V_aload_n hC kX5_load_67 rfl ?_
      refine V_getR hC hWr 5 0 lfX5_10 kX5_load_68 (Nat.le_of_ble_eq_true rfl) (Nat.le_of_ble_eq_true rfl) rfl ?_
      refine V_cV_rI hC (cl_readCommand hWr hT2 (c := (S i).1) hb.2.1 (h8S i) hTi hgo.1 hgo.2) mkX4_readCommand lmX5_72 kX5_load_71 (Nat.le_of_ble_eq_true rfl) rfl rfl rfl (Nat.le_of_ble_eq_true rfl) ⟨(Nat.le_of_ble_eq_true rfl), (Nat.le_of_ble_eq_true rfl)⟩ ⟨rfl, rfl⟩ ⟨(Nat.le_of_ble_eq_true rfl), (Nat.le_of_ble_eq_true rfl)⟩ (fun x71 g71 h71 => ?_)
      refine V_if_eq hC 81 kX5_load_74 (by decide) (fun h74 => ?_) (fun h74 => ?_)
      · have hz : cNext tx (S i).1 10 = 0 := Classical.not_not.mp (b01e.mp (h71.2.2.2.1.symm.trans h74))
        refine V_iconst hC (0) kX5_load_81 (by decide) ?_
        refine V_istore_n hC [some _, some _, some _, some _] kX5_load_82 rfl (Nat.le_of_ble_eq_true rfl) ?_
        refine V_iload_n hC kX5_load_83 rfl ?_
        refine V_if_eq hC 97 kX5_load_84 (by decide) (fun h84 => ?_) (fun h84 => absurd h84 (not_not_intro rfl))
        refine V_iinc hC (_ + 1) [some _, some _, some _, some _] kX5_load_97 rfl rfl rfl (Nat.le_of_ble_eq_true rfl) ?_
        refine V_goto hC 47 kX5_load_100 (by decide) ?_
        refine V_eq ?_ rfl (ih _ (LV_t hb (hIi0 i) h71.1 h71.2.1 ?_ ?_))
        · rw [nI_succ, hst, (step_bad hz).1, rstep_next tx _ (by decide), b01_0' (not_not_intro hz)]
        · rw [hst, rstep_next tx _ (by decide)]; exact h71.2.2.1
        · rw [hst]; exact (step_bad hz).2
      · have hw : ¬ cNext tx (S i).1 10 = 0 := b01n.mp (fun z => h74 (h71.2.2.2.1.trans z))
        obtain ⟨hca, hcm, hcv⟩ := h71.2.2.2.2 hw
        refine V_iconst hC (1) kX5_load_77 (by decide) ?_
        refine V_goto hC 82 kX5_load_78 (by decide) ?_
        refine V_istore_n hC [some _, some _, some _, some _] kX5_load_82 rfl (Nat.le_of_ble_eq_true rfl) ?_
        refine V_iload_n hC kX5_load_83 rfl ?_
        refine V_if_eq hC 97 kX5_load_84 (by decide) (fun h84 => absurd h84 (by decide)) (fun h84 => ?_)
        refine V_aload_n hC kX5_load_87 rfl ?_
        refine V_cV_rI hC (cl_obey hWr (LV_t hb (hIi0 i) h71.1 h71.2.1 (q' := ((S (i + 1)).1, (S i).2)) (by show g71 (x + 1) 3 = (S (i + 1)).1 9; rw [hst, rstep_next tx _ (by decide)]; exact h71.2.2.1) rfl).2.2.1 (hIi0 i) hcm hca hcv (vt_rng hw hcm)) mkX5_obeyCommand lmX5_75 kX5_load_88 (Nat.le_of_ble_eq_true rfl) rfl rfl rfl (Nat.le_of_ble_eq_true rfl) ⟨(Nat.le_of_ble_eq_true rfl), (Nat.le_of_ble_eq_true rfl)⟩ ⟨rfl, rfl⟩ ⟨(Nat.le_of_ble_eq_true rfl), (Nat.le_of_ble_eq_true rfl)⟩ (fun x88 g88 h88 => ?_)
        refine V_if_ne hC 97 kX5_load_91 (by decide) (fun h91 => ?_) (fun h91 => ?_)
        · refine V_iinc hC (_ + 1) [some _, some _, some _, some _] kX5_load_97 rfl rfl rfl (Nat.le_of_ble_eq_true rfl) ?_
          refine V_goto hC 47 kX5_load_100 (by decide) ?_
          have hs := step_ok hw hcm (h11 i)
          refine V_eq ?_ rfl (ih _ (LV_o (LV_t hb (hIi0 i) h71.1 h71.2.1 (q' := ((S (i + 1)).1, (S i).2)) (by show g71 (x + 1) 3 = (S (i + 1)).1 9; rw [hst, rstep_next tx _ (by decide)]; exact h71.2.2.1) rfl) ?_ h88.2.2 rfl))
          · rw [nI_succ, hst, hs.1, b01_0' (b01n.mp (h88.1 ▸ h91)), Int32.add_zero, rstep_next tx _ (by decide), b01_1' hw]
          · rw [hst, hs.2]; exact h88.2.1
        · refine V_iinc hC (_ + 1) [some _, some _, some _, some _] kX5_load_94 rfl rfl rfl (Nat.le_of_ble_eq_true rfl) ?_
          refine V_iinc hC (_ + 1) [some _, some _, some _, some _] kX5_load_97 rfl rfl rfl (Nat.le_of_ble_eq_true rfl) ?_
          refine V_goto hC 47 kX5_load_100 (by decide) ?_
          have hs := step_ok hw hcm (h11 i)
          refine V_eq ?_ rfl (ih _ (LV_o (LV_t hb (hIi0 i) h71.1 h71.2.1 (q' := ((S (i + 1)).1, (S i).2)) (by show g71 (x + 1) 3 = (S (i + 1)).1 9; rw [hst, rstep_next tx _ (by decide)]; exact h71.2.2.1) rfl) ?_ h88.2.2 rfl))
          · rw [nI_succ, hst, hs.1, b01_1' (Classical.not_not.mp (b01e.mp (h88.1 ▸ h91))), rstep_next tx _ (by decide), b01_1' hw]
          · rw [hst, hs.2]; exact h88.2.1
  · refine V_thS hC hX (cls := "java/lang/IllegalStateException") (text := "the text is not a coast") thc2 (by decide +kernel) rfl kX5_load_11 kX5_load_14 kX5_load_15 kX5_load_17 kX5_load_20 ⟨(Nat.le_of_ble_eq_true rfl), (Nat.le_of_ble_eq_true rfl)⟩ ⟨(Nat.le_of_ble_eq_true rfl), (Nat.le_of_ble_eq_true rfl)⟩ ?_
    exact ⟨Classical.byContradiction (fun z => h8 (h4.1.trans (if_neg z))), rfl, h4.2⟩
