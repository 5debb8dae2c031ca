-- HOW ct_in fI
-- HOW ct_fails fI
-- HOW ct_of fI
-- HOW ct_ofBoat fI
-- HOW ct_layBoat fV
-- HOW ct_isLight fI
-- HOW ct_isBoat fI
-- HOW ct_isPlace fI
-- HOW ct_bright fI
-- HOW ct_worth fI
-- HOW ct_serves fI
-- HOW ct_best fI
-- HOW ct_sails fV
-- HOW ct_drops fV
-- HOW ct_wished fI
-- HOW ct_hands fV
-- HOW ct_wishes fV
-- HOW ct_finds fV
-- HOW ct_goesOn fV
-- HOW ct_goesTick fV
-- HOW ct_goesBy fI
-- HOW ct_putAside fV
-- HOW ct_takeBack fV
-- HOW ct_isLamp fI
-- HOW ct_addsLight fI
-- HOW ct_actsLight fI
-- HOW ct_addsBoat fI
-- HOW ct_actsBoat fI
-- HOW ct_actsSteer fI
-- HOW ct_canTalk fI
-- HOW ct_actsTalk fI
-- HOW ct_actsLean fI
-- HOW ct_actsDim fI
-- HOW ct_mostOf fI
-- HOW ct_isSetting fI
-- HOW ct_actsSet fI
-- HOW ct_actsTicks fI
-- HOW ct_boatsThat fI
-- HOW ct_servedBy fI
-- HOW ct_begins fV
-- HOW ct_tellsAbout fI
-- HOW ct_about fM
-- HOW ct_lightOf fM
-- HOW ct_boatOf fM
-- HOW ct_brightness fM
-- HOW ct_bestAt fM
-- HOW ct_setting fM
-- HOW ct_saves fV
-- HOW ct_light fM
-- HOW ct_boat fM
-- HOW ct_steer fM
-- HOW ct_talk fM
-- HOW ct_lean fM
-- HOW ct_dim fM
-- HOW ct_set fM
-- HOW ct_ticks fM
-- HOW ct_undo fM
-- HOW ct_save fM
-- HOW ct_restore fM
-- HOW ct_bringsBy fI
-- HOW ct_ifMargin fM
-- HOW ct_held fI
-- HOW ct_room fI
-- HOW ct_dark fI
-- HOW ct_turns fV
-- HOW ct_simulate fM
-- HOW ct_border fM
-- HOW ct_handedIn fM
-- HOW ct_bestMargin fM
-- HOW ct_thrown fI
-- HOW ct_sign fI
-- HOW ct_number fI
-- HOW ct_carriesLight fI
-- HOW ct_carries fI
-- HOW ct_isCommand fI
-- HOW ct_append fM
-- HOW ct_clearText fM
-- HOW ct_readsAll fV
-- HOW ct_errorPosition fI
-- HOW ct_load rI
-- HOW ct_pair fI
-- HOW ct_laysFigures fV
-- HOW ct_succeeds fI
-- HOW ct_runScript rI
/-! the reference: scripts -/
def mtX6_pair : Mt := (yX6_pair, cX6_pair, 2, (some .int), 0, 0, 0, 0)
theorem kX6_pair_0 : Dk mtX6_pair 0 (.bipush 10) 2 2 := ⟨by decide +kernel, rfl⟩
theorem kX6_pair_2 : Dk mtX6_pair 2 (.aload_n 0) 1 3 := ⟨by decide +kernel, rfl⟩
theorem kX6_pair_3 : Dk mtX6_pair 3 (.getfield 29) 3 6 := ⟨by decide +kernel, rfl⟩
theorem kX6_pair_6 : Dk mtX6_pair 6 (.iload_n 1) 1 7 := ⟨by decide +kernel, rfl⟩
theorem kX6_pair_7 : Dk mtX6_pair 7 (.iaload) 1 8 := ⟨by decide +kernel, rfl⟩
theorem kX6_pair_8 : Dk mtX6_pair 8 (.imul) 1 9 := ⟨by decide +kernel, rfl⟩
theorem kX6_pair_9 : Dk mtX6_pair 9 (.aload_n 0) 1 10 := ⟨by decide +kernel, rfl⟩
theorem kX6_pair_10 : Dk mtX6_pair 10 (.getfield 29) 3 13 := ⟨by decide +kernel, rfl⟩
theorem kX6_pair_13 : Dk mtX6_pair 13 (.iload_n 1) 1 14 := ⟨by decide +kernel, rfl⟩
theorem kX6_pair_14 : Dk mtX6_pair 14 (.iconst 1) 1 15 := ⟨by decide +kernel, rfl⟩
theorem kX6_pair_15 : Dk mtX6_pair 15 (.iadd) 1 16 := ⟨by decide +kernel, rfl⟩
theorem kX6_pair_16 : Dk mtX6_pair 16 (.iaload) 1 17 := ⟨by decide +kernel, rfl⟩
theorem kX6_pair_17 : Dk mtX6_pair 17 (.iadd) 1 18 := ⟨by decide +kernel, rfl⟩
theorem kX6_pair_18 : Dk mtX6_pair 18 (.ireturn) 1 19 := ⟨by decide +kernel, rfl⟩
theorem lfX6_29 : LkF RX6 29 6 13 := Or.inl (by decide +kernel)
set_option maxHeartbeats 4000000 in
set_option maxRecDepth 100000 in
theorem ct_pair {l : Launch} {w : Wd} {sg : Sg} (hWr : Wr w) {mo : Nat} (k : Nat) {a : Int32} (hk : k ≤ 4) (ea : a = nI k) : M l mtX6_pair w [vR (some (6, 0, mo)), vI a] sg (fI (pr (sg (mo + 7)) k) sg) := by
  refine M_of [some (vR (some (6, 0, mo))), some (vI a)] rfl (Nat.le_of_ble_eq_true rfl) (by decide +kernel) ?_
  intro p_ e_ s_ m_ args_ below_ meth_ c_ hC hO
  refine V_bipush hC (10) kX6_pair_0 (by decide) ?_
  refine V_aload_n hC kX6_pair_2 rfl ?_
  refine V_getR hC hWr 6 13 lfX6_29 kX6_pair_3 (Nat.le_of_ble_eq_true rfl) (Nat.le_of_ble_eq_true rfl) rfl ?_
  refine V_iload_n hC kX6_pair_6 rfl ?_
  refine V_iald hC k (by rw [ea]; exact nI_clamp (by omega)) kX6_pair_7 (by rw [ea]; exact vp_in_nI (by omega) (by decide)) ?_
  refine V_imul hC kX6_pair_8 ?_
  refine V_aload_n hC kX6_pair_9 rfl ?_
  refine V_getR hC hWr 6 13 lfX6_29 kX6_pair_10 (Nat.le_of_ble_eq_true rfl) (Nat.le_of_ble_eq_true rfl) rfl ?_
  refine V_iload_n hC kX6_pair_13 rfl ?_
  refine V_iconst hC (1) kX6_pair_14 (by decide) ?_
  refine V_iadd hC kX6_pair_15 ?_
  refine V_iald hC (k + 1) (by rw [ea, nI_1]; exact nI_clamp (by omega)) kX6_pair_16 (by rw [ea, nI_1]; exact vp_in_nI (by omega) (by decide)) ?_
  refine V_iadd hC kX6_pair_17 ?_
  refine V_ireti hC rfl kX6_pair_18 ?_
  unfold pr
  exact ⟨by with_reducible rfl, by with_reducible rfl⟩
def mtX6_laysFigures : Mt := (yX6_laysFigures, cX6_laysFigures, 6, none, 0, 0, 0, 0)
theorem kX6_laysFigures_0 : Dk mtX6_laysFigures 0 (.lload_n 1) 1 1 := ⟨by decide +kernel, rfl⟩
theorem kX6_laysFigures_1 : Dk mtX6_laysFigures 1 (.lstore_n 3) 1 2 := ⟨by decide +kernel, rfl⟩
theorem kX6_laysFigures_2 : Dk mtX6_laysFigures 2 (.iconst 5) 1 3 := ⟨by decide +kernel, rfl⟩
theorem kX6_laysFigures_3 : Dk mtX6_laysFigures 3 (.istore 5) 2 5 := ⟨by decide +kernel, rfl⟩
theorem kX6_laysFigures_5 : Dk mtX6_laysFigures 5 (.iload 5) 2 7 := ⟨by decide +kernel, rfl⟩
theorem kX6_laysFigures_7 : Dk mtX6_laysFigures 7 (.ifCond .lt 28) 3 10 := ⟨by decide +kernel, rfl⟩
theorem kX6_laysFigures_10 : Dk mtX6_laysFigures 10 (.aload_n 0) 1 11 := ⟨by decide +kernel, rfl⟩
theorem kX6_laysFigures_11 : Dk mtX6_laysFigures 11 (.getfield 29) 3 14 := ⟨by decide +kernel, rfl⟩
theorem kX6_laysFigures_14 : Dk mtX6_laysFigures 14 (.iload 5) 2 16 := ⟨by decide +kernel, rfl⟩
theorem kX6_laysFigures_16 : Dk mtX6_laysFigures 16 (.lload_n 3) 1 17 := ⟨by decide +kernel, rfl⟩
theorem kX6_laysFigures_17 : Dk mtX6_laysFigures 17 (.ldc2_w 218) 3 20 := ⟨by decide +kernel, rfl⟩
theorem kX6_laysFigures_20 : Dk mtX6_laysFigures 20 (.lrem) 1 21 := ⟨by decide +kernel, rfl⟩
theorem kX6_laysFigures_21 : Dk mtX6_laysFigures 21 (.l2i) 1 22 := ⟨by decide +kernel, rfl⟩
theorem kX6_laysFigures_22 : Dk mtX6_laysFigures 22 (.iastore) 1 23 := ⟨by decide +kernel, rfl⟩
theorem kX6_laysFigures_23 : Dk mtX6_laysFigures 23 (.lload_n 3) 1 24 := ⟨by decide +kernel, rfl⟩
theorem kX6_laysFigures_24 : Dk mtX6_laysFigures 24 (.ldc2_w 218) 3 27 := ⟨by decide +kernel, rfl⟩
theorem kX6_laysFigures_27 : Dk mtX6_laysFigures 27 (.ldiv) 1 28 := ⟨by decide +kernel, rfl⟩
theorem kX6_laysFigures_28 : Dk mtX6_laysFigures 28 (.lstore_n 3) 1 29 := ⟨by decide +kernel, rfl⟩
theorem kX6_laysFigures_29 : Dk mtX6_laysFigures 29 (.iinc 5 (-1)) 3 32 := ⟨by decide +kernel, rfl⟩
theorem kX6_laysFigures_32 : Dk mtX6_laysFigures 32 (.goto (-27)) 3 35 := ⟨by decide +kernel, rfl⟩
theorem kX6_laysFigures_35 : Dk mtX6_laysFigures 35 (.return_) 1 36 := ⟨by decide +kernel, rfl⟩
theorem lcX6_218 : Cond.constantLong RX6 218 (10) ∈ lw_tbl := by decide +kernel
set_option maxHeartbeats 4000000 in
set_option maxRecDepth 100000 in
theorem ct_laysFigures {l : Launch} {w : Wd} {sg : Sg} (hWr : Wr w) {mo m : Nat} (hm : m < 10 ^ 18) : M l mtX6_laysFigures w [vR (some (6, 0, mo)), vL (lN m)] sg (fV0 (upr sg (mo + 7) (figN m (sg (mo + 7)) 6))) := by
  refine M_of [some (vR (some (6, 0, mo))), some (vL (lN m)), none, none, none, none] rfl (Nat.le_of_ble_eq_true rfl) (by decide +kernel) ?_
  intro p_ e_ s_ m_ args_ below_ meth_ c_ hC hO
  refine V_lload_n hC kX6_laysFigures_0 rfl ?_
  refine V_lstore_n hC [some _, some _, none, some _, none, none] kX6_laysFigures_1 rfl (Nat.le_of_ble_eq_true rfl) ?_
  refine V_iconst hC (5) kX6_laysFigures_2 (by decide) ?_
  refine V_istore hC [some _, some _, none, some _, none, some _] kX6_laysFigures_3 rfl (Nat.le_of_ble_eq_true rfl) ?_
  refine V_canon (upr sg (mo + 7) (figN m (sg (mo + 7)) 0)) (by rw [figN_0, upr_self]) ?_
  refine V_loop 6 (fun i => [some (vR (some (6, 0, mo))), some (vL (lN m)), none, some (vL (lN (m / 10 ^ i))), none, some (vI (5 - nI i))]) (fun i => upr sg (mo + 7) (figN m (sg (mo + 7)) i)) (by rw [Nat.pow_zero, Nat.div_one]; rfl) rfl ?_ (fun i hi ihi => ?_)
  · refine V_iload hC kX6_laysFigures_5 rfl ?_
    refine V_if_lt hC 35 kX6_laysFigures_7 (by decide) (fun h7 => ?_) (fun h7 => absurd h7 (not_not_intro (by decide)))
    refine V_vret hC rfl kX6_laysFigures_35 ?_
    exact ⟨by with_reducible rfl, by with_reducible rfl⟩
  · refine V_iload hC kX6_laysFigures_5 rfl ?_
    refine V_if_lt hC 35 kX6_laysFigures_7 (by decide) (fun h7 => absurd h7 (by rw [lf_1 i hi]; exact Int32.not_lt.mpr (nI_pos' (by omega)))) (fun h7 => ?_)
    refine V_aload_n hC kX6_laysFigures_10 rfl ?_
    refine V_getR hC hWr 6 13 lfX6_29 kX6_laysFigures_11 (Nat.le_of_ble_eq_true rfl) (Nat.le_of_ble_eq_true rfl) rfl ?_
    refine V_iload hC kX6_laysFigures_14 rfl ?_
    refine V_lload_n hC kX6_laysFigures_16 rfl ?_
    refine V_ldc2 hC lcX6_218 kX6_laysFigures_17 ?_
    refine V_lrem hC kX6_laysFigures_20 (by decide) ?_
    refine V_l2i hC kX6_laysFigures_21 ?_
    refine V_iast hC (5 - i) (by rw [lf_1 i hi]; exact nI_clamp (by omega)) kX6_laysFigures_22 (by rw [lf_1 i hi]; exact vp_in_nI (by omega) (by decide)) ?_
    refine V_lload_n hC kX6_laysFigures_23 rfl ?_
    refine V_ldc2 hC lcX6_218 kX6_laysFigures_24 ?_
    refine V_ldiv hC kX6_laysFigures_27 (by decide) ?_
    refine V_lstore_n hC [some _, some _, none, some _, none, some _] kX6_laysFigures_28 rfl (Nat.le_of_ble_eq_true rfl) ?_
    refine V_iinc hC (_ + (-1)) [some _, some _, none, some _, none, some _] kX6_laysFigures_29 rfl rfl rfl (Nat.le_of_ble_eq_true rfl) ?_
    refine V_goto hC 5 kX6_laysFigures_32 (by decide) ?_
    refine V_eq ?_ ?_ ihi
    · rw [lf_4 hm, ← lf_2 i hi]
    · unfold ups
      rw [upr_at, upr_upr, figN_s m _ hi (lf_3 hm)]
def mtX6_succeeds : Mt := (yX6_succeeds, cX6_succeeds, 2, (some .boolean), 9, 207, 0, 0)
theorem kX6_succeeds_0 : Dk mtX6_succeeds 0 (.aload_n 0) 1 1 := ⟨by decide +kernel, rfl⟩
theorem kX6_succeeds_1 : Dk mtX6_succeeds 1 (.getfield 29) 3 4 := ⟨by decide +kernel, rfl⟩
theorem kX6_succeeds_4 : Dk mtX6_succeeds 4 (.iconst 1) 1 5 := ⟨by decide +kernel, rfl⟩
theorem kX6_succeeds_5 : Dk mtX6_succeeds 5 (.iaload) 1 6 := ⟨by decide +kernel, rfl⟩
theorem kX6_succeeds_6 : Dk mtX6_succeeds 6 (.istore_n 1) 1 7 := ⟨by decide +kernel, rfl⟩
theorem kX6_succeeds_7 : Dk mtX6_succeeds 7 (.aload_n 0) 1 8 := ⟨by decide +kernel, rfl⟩
theorem kX6_succeeds_8 : Dk mtX6_succeeds 8 (.getfield 29) 3 11 := ⟨by decide +kernel, rfl⟩
theorem kX6_succeeds_11 : Dk mtX6_succeeds 11 (.iconst 0) 1 12 := ⟨by decide +kernel, rfl⟩
theorem kX6_succeeds_12 : Dk mtX6_succeeds 12 (.iaload) 1 13 := ⟨by decide +kernel, rfl⟩
theorem kX6_succeeds_13 : Dk mtX6_succeeds 13 (.tableswitch 391 1 9 #[51, 82, 113, 141, 180, 211, 272, 319, 346]) 51 64 := ⟨by decide +kernel, rfl⟩
theorem kX6_succeeds_64 : Dk mtX6_succeeds 64 (.iload_n 1) 1 65 := ⟨by decide +kernel, rfl⟩
theorem kX6_succeeds_65 : Dk mtX6_succeeds 65 (.ifCond .ne 28) 3 68 := ⟨by decide +kernel, rfl⟩
theorem kX6_succeeds_68 : Dk mtX6_succeeds 68 (.aload_n 0) 1 69 := ⟨by decide +kernel, rfl⟩
theorem kX6_succeeds_69 : Dk mtX6_succeeds 69 (.iconst 2) 1 70 := ⟨by decide +kernel, rfl⟩
theorem kX6_succeeds_70 : Dk mtX6_succeeds 70 (.invokevirtual 215) 3 73 := ⟨by decide +kernel, rfl⟩
theorem kX6_succeeds_73 : Dk mtX6_succeeds 73 (.ifCond .ne 20) 3 76 := ⟨by decide +kernel, rfl⟩
theorem kX6_succeeds_76 : Dk mtX6_succeeds 76 (.aload_n 0) 1 77 := ⟨by decide +kernel, rfl⟩
theorem kX6_succeeds_77 : Dk mtX6_succeeds 77 (.aload_n 0) 1 78 := ⟨by decide +kernel, rfl⟩
theorem kX6_succeeds_78 : Dk mtX6_succeeds 78 (.iconst 4) 1 79 := ⟨by decide +kernel, rfl⟩
theorem kX6_succeeds_79 : Dk mtX6_succeeds 79 (.invokevirtual 215) 3 82 := ⟨by decide +kernel, rfl⟩
theorem kX6_succeeds_82 : Dk mtX6_succeeds 82 (.invokevirtual 166) 3 85 := ⟨by decide +kernel, rfl⟩
theorem kX6_succeeds_85 : Dk mtX6_succeeds 85 (.iconst (-1)) 1 86 := ⟨by decide +kernel, rfl⟩
theorem kX6_succeeds_86 : Dk mtX6_succeeds 86 (.if_icmp .eq 7) 3 89 := ⟨by decide +kernel, rfl⟩
theorem kX6_succeeds_89 : Dk mtX6_succeeds 89 (.iconst 1) 1 90 := ⟨by decide +kernel, rfl⟩
theorem kX6_succeeds_90 : Dk mtX6_succeeds 90 (.goto 4) 3 93 := ⟨by decide +kernel, rfl⟩
theorem kX6_succeeds_93 : Dk mtX6_succeeds 93 (.iconst 0) 1 94 := ⟨by decide +kernel, rfl⟩
theorem kX6_succeeds_94 : Dk mtX6_succeeds 94 (.ireturn) 1 95 := ⟨by decide +kernel, rfl⟩
theorem kX6_succeeds_95 : Dk mtX6_succeeds 95 (.aload_n 0) 1 96 := ⟨by decide +kernel, rfl⟩
theorem kX6_succeeds_96 : Dk mtX6_succeeds 96 (.iconst 2) 1 97 := ⟨by decide +kernel, rfl⟩
theorem kX6_succeeds_97 : Dk mtX6_succeeds 97 (.invokevirtual 215) 3 100 := ⟨by decide +kernel, rfl⟩
theorem kX6_succeeds_100 : Dk mtX6_succeeds 100 (.ifCond .ne 24) 3 103 := ⟨by decide +kernel, rfl⟩
theorem kX6_succeeds_103 : Dk mtX6_succeeds 103 (.aload_n 0) 1 104 := ⟨by decide +kernel, rfl⟩
theorem kX6_succeeds_104 : Dk mtX6_succeeds 104 (.iload_n 1) 1 105 := ⟨by decide +kernel, rfl⟩
theorem kX6_succeeds_105 : Dk mtX6_succeeds 105 (.aload_n 0) 1 106 := ⟨by decide +kernel, rfl⟩
theorem kX6_succeeds_106 : Dk mtX6_succeeds 106 (.iconst 4) 1 107 := ⟨by decide +kernel, rfl⟩
theorem kX6_succeeds_107 : Dk mtX6_succeeds 107 (.invokevirtual 215) 3 110 := ⟨by decide +kernel, rfl⟩
theorem kX6_succeeds_110 : Dk mtX6_succeeds 110 (.bipush 6) 2 112 := ⟨by decide +kernel, rfl⟩
theorem kX6_succeeds_112 : Dk mtX6_succeeds 112 (.isub) 1 113 := ⟨by decide +kernel, rfl⟩
theorem kX6_succeeds_113 : Dk mtX6_succeeds 113 (.invokevirtual 157) 3 116 := ⟨by decide +kernel, rfl⟩
theorem kX6_succeeds_116 : Dk mtX6_succeeds 116 (.iconst (-1)) 1 117 := ⟨by decide +kernel, rfl⟩
theorem kX6_succeeds_117 : Dk mtX6_succeeds 117 (.if_icmp .eq 7) 3 120 := ⟨by decide +kernel, rfl⟩
theorem kX6_succeeds_120 : Dk mtX6_succeeds 120 (.iconst 1) 1 121 := ⟨by decide +kernel, rfl⟩
theorem kX6_succeeds_121 : Dk mtX6_succeeds 121 (.goto 4) 3 124 := ⟨by decide +kernel, rfl⟩
theorem kX6_succeeds_124 : Dk mtX6_succeeds 124 (.iconst 0) 1 125 := ⟨by decide +kernel, rfl⟩
theorem kX6_succeeds_125 : Dk mtX6_succeeds 125 (.ireturn) 1 126 := ⟨by decide +kernel, rfl⟩
theorem kX6_succeeds_126 : Dk mtX6_succeeds 126 (.aload_n 0) 1 127 := ⟨by decide +kernel, rfl⟩
theorem kX6_succeeds_127 : Dk mtX6_succeeds 127 (.iconst 2) 1 128 := ⟨by decide +kernel, rfl⟩
theorem kX6_succeeds_128 : Dk mtX6_succeeds 128 (.invokevirtual 215) 3 131 := ⟨by decide +kernel, rfl⟩
theorem kX6_succeeds_131 : Dk mtX6_succeeds 131 (.ifCond .ne 21) 3 134 := ⟨by decide +kernel, rfl⟩
theorem kX6_succeeds_134 : Dk mtX6_succeeds 134 (.aload_n 0) 1 135 := ⟨by decide +kernel, rfl⟩
theorem kX6_succeeds_135 : Dk mtX6_succeeds 135 (.iload_n 1) 1 136 := ⟨by decide +kernel, rfl⟩
theorem kX6_succeeds_136 : Dk mtX6_succeeds 136 (.aload_n 0) 1 137 := ⟨by decide +kernel, rfl⟩
theorem kX6_succeeds_137 : Dk mtX6_succeeds 137 (.iconst 4) 1 138 := ⟨by decide +kernel, rfl⟩
theorem kX6_succeeds_138 : Dk mtX6_succeeds 138 (.invokevirtual 215) 3 141 := ⟨by decide +kernel, rfl⟩
theorem kX6_succeeds_141 : Dk mtX6_succeeds 141 (.invokevirtual 160) 3 144 := ⟨by decide +kernel, rfl⟩
theorem kX6_succeeds_144 : Dk mtX6_succeeds 144 (.iconst (-1)) 1 145 := ⟨by decide +kernel, rfl⟩
theorem kX6_succeeds_145 : Dk mtX6_succeeds 145 (.if_icmp .eq 7) 3 148 := ⟨by decide +kernel, rfl⟩
theorem kX6_succeeds_148 : Dk mtX6_succeeds 148 (.iconst 1) 1 149 := ⟨by decide +kernel, rfl⟩
theorem kX6_succeeds_149 : Dk mtX6_succeeds 149 (.goto 4) 3 152 := ⟨by decide +kernel, rfl⟩
theorem kX6_succeeds_152 : Dk mtX6_succeeds 152 (.iconst 0) 1 153 := ⟨by decide +kernel, rfl⟩
theorem kX6_succeeds_153 : Dk mtX6_succeeds 153 (.ireturn) 1 154 := ⟨by decide +kernel, rfl⟩
theorem kX6_succeeds_154 : Dk mtX6_succeeds 154 (.aload_n 0) 1 155 := ⟨by decide +kernel, rfl⟩
theorem kX6_succeeds_155 : Dk mtX6_succeeds 155 (.getfield 29) 3 158 := ⟨by decide +kernel, rfl⟩
theorem kX6_succeeds_158 : Dk mtX6_succeeds 158 (.iconst 2) 1 159 := ⟨by decide +kernel, rfl⟩
theorem kX6_succeeds_159 : Dk mtX6_succeeds 159 (.iaload) 1 160 := ⟨by decide +kernel, rfl⟩
theorem kX6_succeeds_160 : Dk mtX6_succeeds 160 (.ifCond .ne 31) 3 163 := ⟨by decide +kernel, rfl⟩
theorem kX6_succeeds_163 : Dk mtX6_succeeds 163 (.aload_n 0) 1 164 := ⟨by decide +kernel, rfl⟩
theorem kX6_succeeds_164 : Dk mtX6_succeeds 164 (.iload_n 1) 1 165 := ⟨by decide +kernel, rfl⟩
theorem kX6_succeeds_165 : Dk mtX6_succeeds 165 (.bipush 100) 2 167 := ⟨by decide +kernel, rfl⟩
theorem kX6_succeeds_167 : Dk mtX6_succeeds 167 (.aload_n 0) 1 168 := ⟨by decide +kernel, rfl⟩
theorem kX6_succeeds_168 : Dk mtX6_succeeds 168 (.getfield 29) 3 171 := ⟨by decide +kernel, rfl⟩
theorem kX6_succeeds_171 : Dk mtX6_succeeds 171 (.iconst 3) 1 172 := ⟨by decide +kernel, rfl⟩
theorem kX6_succeeds_172 : Dk mtX6_succeeds 172 (.iaload) 1 173 := ⟨by decide +kernel, rfl⟩
theorem kX6_succeeds_173 : Dk mtX6_succeeds 173 (.imul) 1 174 := ⟨by decide +kernel, rfl⟩
theorem kX6_succeeds_174 : Dk mtX6_succeeds 174 (.aload_n 0) 1 175 := ⟨by decide +kernel, rfl⟩
theorem kX6_succeeds_175 : Dk mtX6_succeeds 175 (.iconst 4) 1 176 := ⟨by decide +kernel, rfl⟩
theorem kX6_succeeds_176 : Dk mtX6_succeeds 176 (.invokevirtual 215) 3 179 := ⟨by decide +kernel, rfl⟩
theorem kX6_succeeds_179 : Dk mtX6_succeeds 179 (.iadd) 1 180 := ⟨by decide +kernel, rfl⟩
theorem kX6_succeeds_180 : Dk mtX6_succeeds 180 (.invokevirtual 163) 3 183 := ⟨by decide +kernel, rfl⟩
theorem kX6_succeeds_183 : Dk mtX6_succeeds 183 (.iconst (-1)) 1 184 := ⟨by decide +kernel, rfl⟩
theorem kX6_succeeds_184 : Dk mtX6_succeeds 184 (.if_icmp .eq 7) 3 187 := ⟨by decide +kernel, rfl⟩
theorem kX6_succeeds_187 : Dk mtX6_succeeds 187 (.iconst 1) 1 188 := ⟨by decide +kernel, rfl⟩
theorem kX6_succeeds_188 : Dk mtX6_succeeds 188 (.goto 4) 3 191 := ⟨by decide +kernel, rfl⟩
theorem kX6_succeeds_191 : Dk mtX6_succeeds 191 (.iconst 0) 1 192 := ⟨by decide +kernel, rfl⟩
theorem kX6_succeeds_192 : Dk mtX6_succeeds 192 (.ireturn) 1 193 := ⟨by decide +kernel, rfl⟩
theorem kX6_succeeds_193 : Dk mtX6_succeeds 193 (.aload_n 0) 1 194 := ⟨by decide +kernel, rfl⟩
theorem kX6_succeeds_194 : Dk mtX6_succeeds 194 (.iconst 2) 1 195 := ⟨by decide +kernel, rfl⟩
theorem kX6_succeeds_195 : Dk mtX6_succeeds 195 (.invokevirtual 215) 3 198 := ⟨by decide +kernel, rfl⟩
theorem kX6_succeeds_198 : Dk mtX6_succeeds 198 (.ifCond .ne 24) 3 201 := ⟨by decide +kernel, rfl⟩
theorem kX6_succeeds_201 : Dk mtX6_succeeds 201 (.aload_n 0) 1 202 := ⟨by decide +kernel, rfl⟩
theorem kX6_succeeds_202 : Dk mtX6_succeeds 202 (.iload_n 1) 1 203 := ⟨by decide +kernel, rfl⟩
theorem kX6_succeeds_203 : Dk mtX6_succeeds 203 (.aload_n 0) 1 204 := ⟨by decide +kernel, rfl⟩
theorem kX6_succeeds_204 : Dk mtX6_succeeds 204 (.iconst 4) 1 205 := ⟨by decide +kernel, rfl⟩
theorem kX6_succeeds_205 : Dk mtX6_succeeds 205 (.invokevirtual 215) 3 208 := ⟨by decide +kernel, rfl⟩
theorem kX6_succeeds_208 : Dk mtX6_succeeds 208 (.bipush 30) 2 210 := ⟨by decide +kernel, rfl⟩
theorem kX6_succeeds_210 : Dk mtX6_succeeds 210 (.isub) 1 211 := ⟨by decide +kernel, rfl⟩
theorem kX6_succeeds_211 : Dk mtX6_succeeds 211 (.invokevirtual 200) 3 214 := ⟨by decide +kernel, rfl⟩
theorem kX6_succeeds_214 : Dk mtX6_succeeds 214 (.iconst (-1)) 1 215 := ⟨by decide +kernel, rfl⟩
theorem kX6_succeeds_215 : Dk mtX6_succeeds 215 (.if_icmp .eq 7) 3 218 := ⟨by decide +kernel, rfl⟩
theorem kX6_succeeds_218 : Dk mtX6_succeeds 218 (.iconst 1) 1 219 := ⟨by decide +kernel, rfl⟩
theorem kX6_succeeds_219 : Dk mtX6_succeeds 219 (.goto 4) 3 222 := ⟨by decide +kernel, rfl⟩
theorem kX6_succeeds_222 : Dk mtX6_succeeds 222 (.iconst 0) 1 223 := ⟨by decide +kernel, rfl⟩
theorem kX6_succeeds_223 : Dk mtX6_succeeds 223 (.ireturn) 1 224 := ⟨by decide +kernel, rfl⟩
theorem kX6_succeeds_224 : Dk mtX6_succeeds 224 (.aload_n 0) 1 225 := ⟨by decide +kernel, rfl⟩
theorem kX6_succeeds_225 : Dk mtX6_succeeds 225 (.iconst 2) 1 226 := ⟨by decide +kernel, rfl⟩
theorem kX6_succeeds_226 : Dk mtX6_succeeds 226 (.invokevirtual 215) 3 229 := ⟨by decide +kernel, rfl⟩
theorem kX6_succeeds_229 : Dk mtX6_succeeds 229 (.ifCond .ne 54) 3 232 := ⟨by decide +kernel, rfl⟩
theorem kX6_succeeds_232 : Dk mtX6_succeeds 232 (.aload_n 0) 1 233 := ⟨by decide +kernel, rfl⟩
theorem kX6_succeeds_233 : Dk mtX6_succeeds 233 (.getfield 29) 3 236 := ⟨by decide +kernel, rfl⟩
theorem kX6_succeeds_236 : Dk mtX6_succeeds 236 (.iconst 4) 1 237 := ⟨by decide +kernel, rfl⟩
theorem kX6_succeeds_237 : Dk mtX6_succeeds 237 (.iaload) 1 238 := ⟨by decide +kernel, rfl⟩
theorem kX6_succeeds_238 : Dk mtX6_succeeds 238 (.ifCond .ne 45) 3 241 := ⟨by decide +kernel, rfl⟩
theorem kX6_succeeds_241 : Dk mtX6_succeeds 241 (.aload_n 0) 1 242 := ⟨by decide +kernel, rfl⟩
theorem kX6_succeeds_242 : Dk mtX6_succeeds 242 (.iload_n 1) 1 243 := ⟨by decide +kernel, rfl⟩
theorem kX6_succeeds_243 : Dk mtX6_succeeds 243 (.invokevirtual 108) 3 246 := ⟨by decide +kernel, rfl⟩
theorem kX6_succeeds_246 : Dk mtX6_succeeds 246 (.ifCond .eq 37) 3 249 := ⟨by decide +kernel, rfl⟩
theorem kX6_succeeds_249 : Dk mtX6_succeeds 249 (.aload_n 0) 1 250 := ⟨by decide +kernel, rfl⟩
theorem kX6_succeeds_250 : Dk mtX6_succeeds 250 (.aload_n 0) 1 251 := ⟨by decide +kernel, rfl⟩
theorem kX6_succeeds_251 : Dk mtX6_succeeds 251 (.getfield 29) 3 254 := ⟨by decide +kernel, rfl⟩
theorem kX6_succeeds_254 : Dk mtX6_succeeds 254 (.iconst 5) 1 255 := ⟨by decide +kernel, rfl⟩
theorem kX6_succeeds_255 : Dk mtX6_succeeds 255 (.iaload) 1 256 := ⟨by decide +kernel, rfl⟩
theorem kX6_succeeds_256 : Dk mtX6_succeeds 256 (.invokevirtual 114) 3 259 := ⟨by decide +kernel, rfl⟩
theorem kX6_succeeds_259 : Dk mtX6_succeeds 259 (.ifCond .eq 24) 3 262 := ⟨by decide +kernel, rfl⟩
theorem kX6_succeeds_262 : Dk mtX6_succeeds 262 (.aload_n 0) 1 263 := ⟨by decide +kernel, rfl⟩
theorem kX6_succeeds_263 : Dk mtX6_succeeds 263 (.iload_n 1) 1 264 := ⟨by decide +kernel, rfl⟩
theorem kX6_succeeds_264 : Dk mtX6_succeeds 264 (.iconst 2) 1 265 := ⟨by decide +kernel, rfl⟩
theorem kX6_succeeds_265 : Dk mtX6_succeeds 265 (.invokevirtual 53) 3 268 := ⟨by decide +kernel, rfl⟩
theorem kX6_succeeds_268 : Dk mtX6_succeeds 268 (.aload_n 0) 1 269 := ⟨by decide +kernel, rfl⟩
theorem kX6_succeeds_269 : Dk mtX6_succeeds 269 (.getfield 29) 3 272 := ⟨by decide +kernel, rfl⟩
theorem kX6_succeeds_272 : Dk mtX6_succeeds 272 (.iconst 5) 1 273 := ⟨by decide +kernel, rfl⟩
theorem kX6_succeeds_273 : Dk mtX6_succeeds 273 (.iaload) 1 274 := ⟨by decide +kernel, rfl⟩
theorem kX6_succeeds_274 : Dk mtX6_succeeds 274 (.iconst 1) 1 275 := ⟨by decide +kernel, rfl⟩
theorem kX6_succeeds_275 : Dk mtX6_succeeds 275 (.iadd) 1 276 := ⟨by decide +kernel, rfl⟩
theorem kX6_succeeds_276 : Dk mtX6_succeeds 276 (.if_icmp .ne 7) 3 279 := ⟨by decide +kernel, rfl⟩
theorem kX6_succeeds_279 : Dk mtX6_succeeds 279 (.iconst 1) 1 280 := ⟨by decide +kernel, rfl⟩
theorem kX6_succeeds_280 : Dk mtX6_succeeds 280 (.goto 4) 3 283 := ⟨by decide +kernel, rfl⟩
theorem kX6_succeeds_283 : Dk mtX6_succeeds 283 (.iconst 0) 1 284 := ⟨by decide +kernel, rfl⟩
theorem kX6_succeeds_284 : Dk mtX6_succeeds 284 (.ireturn) 1 285 := ⟨by decide +kernel, rfl⟩
theorem kX6_succeeds_285 : Dk mtX6_succeeds 285 (.aload_n 0) 1 286 := ⟨by decide +kernel, rfl⟩
theorem kX6_succeeds_286 : Dk mtX6_succeeds 286 (.getfield 29) 3 289 := ⟨by decide +kernel, rfl⟩
theorem kX6_succeeds_289 : Dk mtX6_succeeds 289 (.iconst 2) 1 290 := ⟨by decide +kernel, rfl⟩
theorem kX6_succeeds_290 : Dk mtX6_succeeds 290 (.iaload) 1 291 := ⟨by decide +kernel, rfl⟩
theorem kX6_succeeds_291 : Dk mtX6_succeeds 291 (.ifCond .ne 39) 3 294 := ⟨by decide +kernel, rfl⟩
theorem kX6_succeeds_294 : Dk mtX6_succeeds 294 (.aload_n 0) 1 295 := ⟨by decide +kernel, rfl⟩
theorem kX6_succeeds_295 : Dk mtX6_succeeds 295 (.iload_n 1) 1 296 := ⟨by decide +kernel, rfl⟩
theorem kX6_succeeds_296 : Dk mtX6_succeeds 296 (.invokevirtual 108) 3 299 := ⟨by decide +kernel, rfl⟩
theorem kX6_succeeds_299 : Dk mtX6_succeeds 299 (.ifCond .eq 31) 3 302 := ⟨by decide +kernel, rfl⟩
theorem kX6_succeeds_302 : Dk mtX6_succeeds 302 (.aload_n 0) 1 303 := ⟨by decide +kernel, rfl⟩
theorem kX6_succeeds_303 : Dk mtX6_succeeds 303 (.iload_n 1) 1 304 := ⟨by decide +kernel, rfl⟩
theorem kX6_succeeds_304 : Dk mtX6_succeeds 304 (.iconst 0) 1 305 := ⟨by decide +kernel, rfl⟩
theorem kX6_succeeds_305 : Dk mtX6_succeeds 305 (.invokevirtual 53) 3 308 := ⟨by decide +kernel, rfl⟩
theorem kX6_succeeds_308 : Dk mtX6_succeeds 308 (.bipush 100) 2 310 := ⟨by decide +kernel, rfl⟩
theorem kX6_succeeds_310 : Dk mtX6_succeeds 310 (.aload_n 0) 1 311 := ⟨by decide +kernel, rfl⟩
theorem kX6_succeeds_311 : Dk mtX6_succeeds 311 (.getfield 29) 3 314 := ⟨by decide +kernel, rfl⟩
theorem kX6_succeeds_314 : Dk mtX6_succeeds 314 (.iconst 3) 1 315 := ⟨by decide +kernel, rfl⟩
theorem kX6_succeeds_315 : Dk mtX6_succeeds 315 (.iaload) 1 316 := ⟨by decide +kernel, rfl⟩
theorem kX6_succeeds_316 : Dk mtX6_succeeds 316 (.imul) 1 317 := ⟨by decide +kernel, rfl⟩
theorem kX6_succeeds_317 : Dk mtX6_succeeds 317 (.aload_n 0) 1 318 := ⟨by decide +kernel, rfl⟩
theorem kX6_succeeds_318 : Dk mtX6_succeeds 318 (.iconst 4) 1 319 := ⟨by decide +kernel, rfl⟩
theorem kX6_succeeds_319 : Dk mtX6_succeeds 319 (.invokevirtual 215) 3 322 := ⟨by decide +kernel, rfl⟩
theorem kX6_succeeds_322 : Dk mtX6_succeeds 322 (.iadd) 1 323 := ⟨by decide +kernel, rfl⟩
theorem kX6_succeeds_323 : Dk mtX6_succeeds 323 (.if_icmp .ne 7) 3 326 := ⟨by decide +kernel, rfl⟩
theorem kX6_succeeds_326 : Dk mtX6_succeeds 326 (.iconst 1) 1 327 := ⟨by decide +kernel, rfl⟩
theorem kX6_succeeds_327 : Dk mtX6_succeeds 327 (.goto 4) 3 330 := ⟨by decide +kernel, rfl⟩
theorem kX6_succeeds_330 : Dk mtX6_succeeds 330 (.iconst 0) 1 331 := ⟨by decide +kernel, rfl⟩
theorem kX6_succeeds_331 : Dk mtX6_succeeds 331 (.ireturn) 1 332 := ⟨by decide +kernel, rfl⟩
theorem kX6_succeeds_332 : Dk mtX6_succeeds 332 (.aload_n 0) 1 333 := ⟨by decide +kernel, rfl⟩
theorem kX6_succeeds_333 : Dk mtX6_succeeds 333 (.iconst 2) 1 334 := ⟨by decide +kernel, rfl⟩
theorem kX6_succeeds_334 : Dk mtX6_succeeds 334 (.invokevirtual 215) 3 337 := ⟨by decide +kernel, rfl⟩
theorem kX6_succeeds_337 : Dk mtX6_succeeds 337 (.ifCond .ne 20) 3 340 := ⟨by decide +kernel, rfl⟩
theorem kX6_succeeds_340 : Dk mtX6_succeeds 340 (.aload_n 0) 1 341 := ⟨by decide +kernel, rfl⟩
theorem kX6_succeeds_341 : Dk mtX6_succeeds 341 (.iload_n 1) 1 342 := ⟨by decide +kernel, rfl⟩
theorem kX6_succeeds_342 : Dk mtX6_succeeds 342 (.invokevirtual 188) 3 345 := ⟨by decide +kernel, rfl⟩
theorem kX6_succeeds_345 : Dk mtX6_succeeds 345 (.aload_n 0) 1 346 := ⟨by decide +kernel, rfl⟩
theorem kX6_succeeds_346 : Dk mtX6_succeeds 346 (.iconst 4) 1 347 := ⟨by decide +kernel, rfl⟩
theorem kX6_succeeds_347 : Dk mtX6_succeeds 347 (.invokevirtual 215) 3 350 := ⟨by decide +kernel, rfl⟩
theorem kX6_succeeds_350 : Dk mtX6_succeeds 350 (.if_icmp .gt 7) 3 353 := ⟨by decide +kernel, rfl⟩
theorem kX6_succeeds_353 : Dk mtX6_succeeds 353 (.iconst 1) 1 354 := ⟨by decide +kernel, rfl⟩
theorem kX6_succeeds_354 : Dk mtX6_succeeds 354 (.goto 4) 3 357 := ⟨by decide +kernel, rfl⟩
theorem kX6_succeeds_357 : Dk mtX6_succeeds 357 (.iconst 0) 1 358 := ⟨by decide +kernel, rfl⟩
theorem kX6_succeeds_358 : Dk mtX6_succeeds 358 (.ireturn) 1 359 := ⟨by decide +kernel, rfl⟩
theorem kX6_succeeds_359 : Dk mtX6_succeeds 359 (.aload_n 0) 1 360 := ⟨by decide +kernel, rfl⟩
theorem kX6_succeeds_360 : Dk mtX6_succeeds 360 (.iconst 2) 1 361 := ⟨by decide +kernel, rfl⟩
theorem kX6_succeeds_361 : Dk mtX6_succeeds 361 (.invokevirtual 215) 3 364 := ⟨by decide +kernel, rfl⟩
theorem kX6_succeeds_364 : Dk mtX6_succeeds 364 (.ifCond .ne 38) 3 367 := ⟨by decide +kernel, rfl⟩
theorem kX6_succeeds_367 : Dk mtX6_succeeds 367 (.aload_n 0) 1 368 := ⟨by decide +kernel, rfl⟩
theorem kX6_succeeds_368 : Dk mtX6_succeeds 368 (.getfield 29) 3 371 := ⟨by decide +kernel, rfl⟩
theorem kX6_succeeds_371 : Dk mtX6_succeeds 371 (.iconst 4) 1 372 := ⟨by decide +kernel, rfl⟩
theorem kX6_succeeds_372 : Dk mtX6_succeeds 372 (.iaload) 1 373 := ⟨by decide +kernel, rfl⟩
theorem kX6_succeeds_373 : Dk mtX6_succeeds 373 (.ifCond .ne 29) 3 376 := ⟨by decide +kernel, rfl⟩
theorem kX6_succeeds_376 : Dk mtX6_succeeds 376 (.aload_n 0) 1 377 := ⟨by decide +kernel, rfl⟩
theorem kX6_succeeds_377 : Dk mtX6_succeeds 377 (.iload_n 1) 1 378 := ⟨by decide +kernel, rfl⟩
theorem kX6_succeeds_378 : Dk mtX6_succeeds 378 (.invokevirtual 114) 3 381 := ⟨by decide +kernel, rfl⟩
theorem kX6_succeeds_381 : Dk mtX6_succeeds 381 (.ifCond .eq 21) 3 384 := ⟨by decide +kernel, rfl⟩
theorem kX6_succeeds_384 : Dk mtX6_succeeds 384 (.aload_n 0) 1 385 := ⟨by decide +kernel, rfl⟩
theorem kX6_succeeds_385 : Dk mtX6_succeeds 385 (.iload_n 1) 1 386 := ⟨by decide +kernel, rfl⟩
theorem kX6_succeeds_386 : Dk mtX6_succeeds 386 (.invokevirtual 71) 3 389 := ⟨by decide +kernel, rfl⟩
theorem kX6_succeeds_389 : Dk mtX6_succeeds 389 (.aload_n 0) 1 390 := ⟨by decide +kernel, rfl⟩
theorem kX6_succeeds_390 : Dk mtX6_succeeds 390 (.getfield 29) 3 393 := ⟨by decide +kernel, rfl⟩
theorem kX6_succeeds_393 : Dk mtX6_succeeds 393 (.iconst 5) 1 394 := ⟨by decide +kernel, rfl⟩
theorem kX6_succeeds_394 : Dk mtX6_succeeds 394 (.iaload) 1 395 := ⟨by decide +kernel, rfl⟩
theorem kX6_succeeds_395 : Dk mtX6_succeeds 395 (.if_icmp .lt 7) 3 398 := ⟨by decide +kernel, rfl⟩
theorem kX6_succeeds_398 : Dk mtX6_succeeds 398 (.iconst 1) 1 399 := ⟨by decide +kernel, rfl⟩
theorem kX6_succeeds_399 : Dk mtX6_succeeds 399 (.goto 4) 3 402 := ⟨by decide +kernel, rfl⟩
theorem kX6_succeeds_402 : Dk mtX6_succeeds 402 (.iconst 0) 1 403 := ⟨by decide +kernel, rfl⟩
theorem kX6_succeeds_403 : Dk mtX6_succeeds 403 (.ireturn) 1 404 := ⟨by decide +kernel, rfl⟩
theorem kX6_succeeds_404 : Dk mtX6_succeeds 404 (.iconst 0) 1 405 := ⟨by decide +kernel, rfl⟩
theorem kX6_succeeds_405 : Dk mtX6_succeeds 405 (.ireturn) 1 406 := ⟨by decide +kernel, rfl⟩
theorem lmX6_215 : LkM RX6 215 mtX6_pair := Or.inl (by decide +kernel)
theorem mkX6_pair : MkV mtX6_pair 1 := ⟨List.mem_of_getElem? (i := 1375) (by decide +kernel), by decide +kernel, by decide +kernel, by decide +kernel, ⟨by decide +kernel, by decide +kernel, by decide +kernel⟩⟩
set_option maxHeartbeats 4000000 in
set_option maxRecDepth 100000 in
theorem ct_succeeds {l : Launch} {w : Wd} {sg : Sg} (hWr : Wr w) {mo : Nat} (hf : ∀ k, k < 6 → ∃ d, d < 10 ∧ sg (mo + 7) k = nI d) (hI : Inv (sg (mo + 1))) : M l mtX6_succeeds w [vR (some (6, 0, mo))] sg (fI (R_suc (sg (mo + 1)) (sg (mo + 7)) (tn ((sg (mo + 7)) 0))) (upr sg (mo + 1) (F_suc (sg (mo + 1)) (sg (mo + 7)) (tn ((sg (mo + 7)) 0))))) := by
  refine M_of [some (vR (some (6, 0, mo))), none] rfl (Nat.le_of_ble_eq_true rfl) (by decide +kernel) ?_
  intro p_ e_ s_ m_ args_ below_ meth_ c_ hC hO
  obtain ⟨D1, hD1, eD1⟩ := hf 1 (by decide)
  obtain ⟨D5, hD5, eD5⟩ := hf 5 (by decide)
  refine V_aload_n hC kX6_succeeds_0 rfl ?_
  refine V_getR hC hWr 6 13 lfX6_29 kX6_succeeds_1 (Nat.le_of_ble_eq_true rfl) (Nat.le_of_ble_eq_true rfl) rfl ?_
  refine V_iconst hC (1) kX6_succeeds_4 (by decide) ?_
  refine V_iald hC 1 rfl kX6_succeeds_5 (vp_lit rfl) ?_
  refine V_nameI (fun one e_one => ?_)
  refine V_istore_n hC [some _, some _] kX6_succeeds_6 rfl (Nat.le_of_ble_eq_true rfl) ?_
  refine V_aload_n hC kX6_succeeds_7 rfl ?_
  refine V_getR hC hWr 6 13 lfX6_29 kX6_succeeds_8 (Nat.le_of_ble_eq_true rfl) (Nat.le_of_ble_eq_true rfl) rfl ?_
  refine V_iconst hC (0) kX6_succeeds_11 (by decide) ?_
  refine V_iald hC 0 rfl kX6_succeeds_12 (vp_lit rfl) ?_
  subst e_one
  obtain ⟨D, hD, eD⟩ := hf 0 (by decide)
  rcases (show D = 0 ∨ D = 1 ∨ D = 2 ∨ D = 3 ∨ D = 4 ∨ D = 5 ∨ D = 6 ∨ D = 7 ∨ D = 8 ∨ D = 9 by omega) with hDn | hDn | hDn | hDn | hDn | hDn | hDn | hDn | hDn | hDn
  · subst hDn
    have et : tn (sg (mo + 7) 0) = 0 := by rw [eD]; rfl
    refine V_tabOut hC 404 kX6_succeeds_13 (Or.inl (by rw [eD]; decide)) (by decide) ?_
    refine V_iconst hC (0) kX6_succeeds_404 (by decide) ?_
    refine V_iretz hC rfl kX6_succeeds_405 ?_ ?_
    · first | exact Or.inl rfl | exact Or.inr rfl
    · rw [et]
      exact ⟨cI rfl, (upr_self _ _).symm⟩
  · subst hDn
    have et : tn (sg (mo + 7) 0) = 1 := by rw [eD]; rfl
    refine V_tabIn hC (51) 64 kX6_succeeds_13 (by rw [eD]; decide) (by rw [eD]; decide) (by rw [eD]; rfl) (by decide) ?_
    refine V_iload_n hC kX6_succeeds_64 rfl ?_
    refine V_if_ne hC 93 kX6_succeeds_65 (by decide) (fun h65 => ?_) (fun h65 => ?_)
    · refine V_iconst hC (0) kX6_succeeds_93 (by decide) ?_
      refine V_iretz hC rfl kX6_succeeds_94 ?_ ?_
      · first | exact Or.inl rfl | exact Or.inr rfl
      · rw [et]
        first
        | (have hq := h65
           have hn : ¬ cS1 (sg (mo + 1)) (sg (mo + 7)) := fun z => hq (z.1)
           refine ⟨cI ?_, ?_⟩
           · show 0 = b01 (cS1 (sg (mo + 1)) (sg (mo + 7)))
             exact (b01_f hn).symm
           · show _ = upr sg (mo + 1) (if cS1 (sg (mo + 1)) (sg (mo + 7)) then _ else sg (mo + 1))
             rw [if_neg hn, upr_self])
        | (have hq := h73
           have hn : ¬ cS1 (sg (mo + 1)) (sg (mo + 7)) := fun z => hq (z.2.1)
           refine ⟨cI ?_, ?_⟩
           · show 0 = b01 (cS1 (sg (mo + 1)) (sg (mo + 7)))
             exact (b01_f hn).symm
           · show _ = upr sg (mo + 1) (if cS1 (sg (mo + 1)) (sg (mo + 7)) then _ else sg (mo + 1))
             rw [if_neg hn, upr_self])
        | (have hq := ((ite_tk hI).mp h86)
           have hn : ¬ cS1 (sg (mo + 1)) (sg (mo + 7)) := fun z => hq (z.2.2)
           refine ⟨cI ?_, ?_⟩
           · show 0 = b01 (cS1 (sg (mo + 1)) (sg (mo + 7)))
             exact (b01_f hn).symm
           · show _ = upr sg (mo + 1) (if cS1 (sg (mo + 1)) (sg (mo + 7)) then _ else sg (mo + 1))
             rw [if_neg hn, upr_self]
             rw [if_neg hq, upr_self])
        | (have hp : cS1 (sg (mo + 1)) (sg (mo + 7)) := ⟨h65, h73, Classical.not_not.mp (fun z => h86 ((ite_tk hI).mpr z))⟩
           refine ⟨cI ?_, ?_⟩
           · show 1 = b01 (cS1 (sg (mo + 1)) (sg (mo + 7)))
             exact (b01_t hp).symm
           · show _ = upr sg (mo + 1) (if cS1 (sg (mo + 1)) (sg (mo + 7)) then _ else sg (mo + 1))
             rw [if_pos hp, if_pos (show _ from hp.2.2)])
    · refine V_aload_n hC kX6_succeeds_68 rfl ?_
      refine V_iconst hC (2) kX6_succeeds_69 (by decide) ?_
      refine V_cV_fI hC (ct_pair hWr 2 (by decide) rfl) mkX6_pair lmX6_215 kX6_succeeds_70 (Nat.le_of_ble_eq_true rfl) rfl rfl rfl (Nat.le_of_ble_eq_true rfl) ⟨(Nat.le_of_ble_eq_true rfl), (Nat.le_of_ble_eq_true rfl)⟩ ⟨rfl, rfl⟩ ⟨(Nat.le_of_ble_eq_true rfl), (Nat.le_of_ble_eq_true rfl)⟩ ?_
      refine V_if_ne hC 93 kX6_succeeds_73 (by decide) (fun h73 => ?_) (fun h73 => ?_)
      · refine V_iconst hC (0) kX6_succeeds_93 (by decide) ?_
        refine V_iretz hC rfl kX6_succeeds_94 ?_ ?_
        · first | exact Or.inl rfl | exact Or.inr rfl
        · rw [et]
          first
          | (have hq := h65
             have hn : ¬ cS1 (sg (mo + 1)) (sg (mo + 7)) := fun z => hq (z.1)
             refine ⟨cI ?_, ?_⟩
             · show 0 = b01 (cS1 (sg (mo + 1)) (sg (mo + 7)))
               exact (b01_f hn).symm
             · show _ = upr sg (mo + 1) (if cS1 (sg (mo + 1)) (sg (mo + 7)) then _ else sg (mo + 1))
               rw [if_neg hn, upr_self])
          | (have hq := h73
             have hn : ¬ cS1 (sg (mo + 1)) (sg (mo + 7)) := fun z => hq (z.2.1)
             refine ⟨cI ?_, ?_⟩
             · show 0 = b01 (cS1 (sg (mo + 1)) (sg (mo + 7)))
               exact (b01_f hn).symm
             · show _ = upr sg (mo + 1) (if cS1 (sg (mo + 1)) (sg (mo + 7)) then _ else sg (mo + 1))
               rw [if_neg hn, upr_self])
          | (have hq := ((ite_tk hI).mp h86)
             have hn : ¬ cS1 (sg (mo + 1)) (sg (mo + 7)) := fun z => hq (z.2.2)
             refine ⟨cI ?_, ?_⟩
             · show 0 = b01 (cS1 (sg (mo + 1)) (sg (mo + 7)))
               exact (b01_f hn).symm
             · show _ = upr sg (mo + 1) (if cS1 (sg (mo + 1)) (sg (mo + 7)) then _ else sg (mo + 1))
               rw [if_neg hn, upr_self]
               rw [if_neg hq, upr_self])
          | (have hp : cS1 (sg (mo + 1)) (sg (mo + 7)) := ⟨h65, h73, Classical.not_not.mp (fun z => h86 ((ite_tk hI).mpr z))⟩
             refine ⟨cI ?_, ?_⟩
             · show 1 = b01 (cS1 (sg (mo + 1)) (sg (mo + 7)))
               exact (b01_t hp).symm
             · show _ = upr sg (mo + 1) (if cS1 (sg (mo + 1)) (sg (mo + 7)) then _ else sg (mo + 1))
               rw [if_pos hp, if_pos (show _ from hp.2.2)])
      · refine V_aload_n hC kX6_succeeds_76 rfl ?_
        refine V_aload_n hC kX6_succeeds_77 rfl ?_
        refine V_iconst hC (4) kX6_succeeds_78 (by decide) ?_
        refine V_cV_fI hC (ct_pair hWr 4 (by decide) rfl) mkX6_pair lmX6_215 kX6_succeeds_79 (Nat.le_of_ble_eq_true rfl) rfl rfl rfl (Nat.le_of_ble_eq_true rfl) ⟨(Nat.le_of_ble_eq_true rfl), (Nat.le_of_ble_eq_true rfl)⟩ ⟨rfl, rfl⟩ ⟨(Nat.le_of_ble_eq_true rfl), (Nat.le_of_ble_eq_true rfl)⟩ ?_
        refine V_cV_fI hC (ct_actsTicks hWr _ hI) mkX6_actsTicks lmX6_166 kX6_succeeds_82 (Nat.le_of_ble_eq_true rfl) rfl rfl rfl (Nat.le_of_ble_eq_true rfl) ⟨(Nat.le_of_ble_eq_true rfl), (Nat.le_of_ble_eq_true rfl)⟩ ⟨rfl, rfl⟩ ⟨(Nat.le_of_ble_eq_true rfl), (Nat.le_of_ble_eq_true rfl)⟩ ?_
        refine V_iconst hC (-1) kX6_succeeds_85 (by decide) ?_
        refine V_icmp_eq hC 93 kX6_succeeds_86 (by decide) (fun h86 => ?_) (fun h86 => ?_)
        · refine V_iconst hC (0) kX6_succeeds_93 (by decide) ?_
          refine V_iretz hC rfl kX6_succeeds_94 ?_ ?_
          · first | exact Or.inl rfl | exact Or.inr rfl
          · rw [et]
            first
            | (have hq := h65
               have hn : ¬ cS1 (sg (mo + 1)) (sg (mo + 7)) := fun z => hq (z.1)
               refine ⟨cI ?_, ?_⟩
               · show 0 = b01 (cS1 (sg (mo + 1)) (sg (mo + 7)))
                 exact (b01_f hn).symm
               · show _ = upr sg (mo + 1) (if cS1 (sg (mo + 1)) (sg (mo + 7)) then _ else sg (mo + 1))
                 rw [if_neg hn, upr_self])
            | (have hq := h73
               have hn : ¬ cS1 (sg (mo + 1)) (sg (mo + 7)) := fun z => hq (z.2.1)
               refine ⟨cI ?_, ?_⟩
               · show 0 = b01 (cS1 (sg (mo + 1)) (sg (mo + 7)))
                 exact (b01_f hn).symm
               · show _ = upr sg (mo + 1) (if cS1 (sg (mo + 1)) (sg (mo + 7)) then _ else sg (mo + 1))
                 rw [if_neg hn, upr_self])
            | (have hq := ((ite_tk hI).mp h86)
               have hn : ¬ cS1 (sg (mo + 1)) (sg (mo + 7)) := fun z => hq (z.2.2)
               refine ⟨cI ?_, ?_⟩
               · show 0 = b01 (cS1 (sg (mo + 1)) (sg (mo + 7)))
                 exact (b01_f hn).symm
               · show _ = upr sg (mo + 1) (if cS1 (sg (mo + 1)) (sg (mo + 7)) then _ else sg (mo + 1))
                 rw [if_neg hn, upr_self]
                 rw [if_neg hq, upr_self])
            | (have hp : cS1 (sg (mo + 1)) (sg (mo + 7)) := ⟨h65, h73, Classical.not_not.mp (fun z => h86 ((ite_tk hI).mpr z))⟩
               refine ⟨cI ?_, ?_⟩
               · show 1 = b01 (cS1 (sg (mo + 1)) (sg (mo + 7)))
                 exact (b01_t hp).symm
               · show _ = upr sg (mo + 1) (if cS1 (sg (mo + 1)) (sg (mo + 7)) then _ else sg (mo + 1))
                 rw [if_pos hp, if_pos (show _ from hp.2.2)])
        · refine V_iconst hC (1) kX6_succeeds_89 (by decide) ?_
          refine V_goto hC 94 kX6_succeeds_90 (by decide) ?_
          refine V_iretz hC rfl kX6_succeeds_94 ?_ ?_
          · first | exact Or.inl rfl | exact Or.inr rfl
          · rw [et]
            first
            | (have hq := h65
               have hn : ¬ cS1 (sg (mo + 1)) (sg (mo + 7)) := fun z => hq (z.1)
               refine ⟨cI ?_, ?_⟩
               · show 0 = b01 (cS1 (sg (mo + 1)) (sg (mo + 7)))
                 exact (b01_f hn).symm
               · show _ = upr sg (mo + 1) (if cS1 (sg (mo + 1)) (sg (mo + 7)) then _ else sg (mo + 1))
                 rw [if_neg hn, upr_self])
            | (have hq := h73
               have hn : ¬ cS1 (sg (mo + 1)) (sg (mo + 7)) := fun z => hq (z.2.1)
               refine ⟨cI ?_, ?_⟩
               · show 0 = b01 (cS1 (sg (mo + 1)) (sg (mo + 7)))
                 exact (b01_f hn).symm
               · show _ = upr sg (mo + 1) (if cS1 (sg (mo + 1)) (sg (mo + 7)) then _ else sg (mo + 1))
                 rw [if_neg hn, upr_self])
            | (have hq := ((ite_tk hI).mp h86)
               have hn : ¬ cS1 (sg (mo + 1)) (sg (mo + 7)) := fun z => hq (z.2.2)
               refine ⟨cI ?_, ?_⟩
               · show 0 = b01 (cS1 (sg (mo + 1)) (sg (mo + 7)))
                 exact (b01_f hn).symm
               · show _ = upr sg (mo + 1) (if cS1 (sg (mo + 1)) (sg (mo + 7)) then _ else sg (mo + 1))
                 rw [if_neg hn, upr_self]
                 rw [if_neg hq, upr_self])
            | (have hp : cS1 (sg (mo + 1)) (sg (mo + 7)) := ⟨h65, h73, Classical.not_not.mp (fun z => h86 ((ite_tk hI).mpr z))⟩
               refine ⟨cI ?_, ?_⟩
               · show 1 = b01 (cS1 (sg (mo + 1)) (sg (mo + 7)))
                 exact (b01_t hp).symm
               · show _ = upr sg (mo + 1) (if cS1 (sg (mo + 1)) (sg (mo + 7)) then _ else sg (mo + 1))
                 rw [if_pos hp, if_pos (show _ from hp.2.2)])
  · subst hDn
    have et : tn (sg (mo + 7) 0) = 2 := by rw [eD]; rfl
    refine V_tabIn hC (82) 95 kX6_succeeds_13 (by rw [eD]; decide) (by rw [eD]; decide) (by rw [eD]; rfl) (by decide) ?_
    refine V_aload_n hC kX6_succeeds_95 rfl ?_
    refine V_iconst hC (2) kX6_succeeds_96 (by decide) ?_
    refine V_cV_fI hC (ct_pair hWr 2 (by decide) rfl) mkX6_pair lmX6_215 kX6_succeeds_97 (Nat.le_of_ble_eq_true rfl) rfl rfl rfl (Nat.le_of_ble_eq_true rfl) ⟨(Nat.le_of_ble_eq_true rfl), (Nat.le_of_ble_eq_true rfl)⟩ ⟨rfl, rfl⟩ ⟨(Nat.le_of_ble_eq_true rfl), (Nat.le_of_ble_eq_true rfl)⟩ ?_
    refine V_if_ne hC 124 kX6_succeeds_100 (by decide) (fun h100 => ?_) (fun h100 => ?_)
    · refine V_iconst hC (0) kX6_succeeds_124 (by decide) ?_
      refine V_iretz hC rfl kX6_succeeds_125 ?_ ?_
      · first | exact Or.inl rfl | exact Or.inr rfl
      · rw [et]
        first
        | (have hq := h100
           have hn : ¬ cS2 (sg (mo + 1)) (sg (mo + 7)) := fun z => hq (z.1)
           refine ⟨cI ?_, ?_⟩
           · show 0 = b01 (cS2 (sg (mo + 1)) (sg (mo + 7)))
             exact (b01_f hn).symm
           · show _ = upr sg (mo + 1) (if cS2 (sg (mo + 1)) (sg (mo + 7)) then _ else sg (mo + 1))
             rw [if_neg hn, upr_self])
        | (have hq := (ite_m1.mp h117)
           have hn : ¬ cS2 (sg (mo + 1)) (sg (mo + 7)) := fun z => hq (z.2)
           refine ⟨cI ?_, ?_⟩
           · show 0 = b01 (cS2 (sg (mo + 1)) (sg (mo + 7)))
             exact (b01_f hn).symm
           · show _ = upr sg (mo + 1) (if cS2 (sg (mo + 1)) (sg (mo + 7)) then _ else sg (mo + 1))
             rw [if_neg hn, upr_self]
             rw [if_neg hq, upr_self])
        | (have hp : cS2 (sg (mo + 1)) (sg (mo + 7)) := ⟨h100, Classical.not_not.mp (fun z => h117 (ite_m1.mpr z))⟩
           refine ⟨cI ?_, ?_⟩
           · show 1 = b01 (cS2 (sg (mo + 1)) (sg (mo + 7)))
             exact (b01_t hp).symm
           · show _ = upr sg (mo + 1) (if cS2 (sg (mo + 1)) (sg (mo + 7)) then _ else sg (mo + 1))
             rw [if_pos hp, if_pos (show _ from hp.2)])
    · refine V_aload_n hC kX6_succeeds_103 rfl ?_
      refine V_iload_n hC kX6_succeeds_104 rfl ?_
      refine V_aload_n hC kX6_succeeds_105 rfl ?_
      refine V_iconst hC (4) kX6_succeeds_106 (by decide) ?_
      refine V_cV_fI hC (ct_pair hWr 4 (by decide) rfl) mkX6_pair lmX6_215 kX6_succeeds_107 (Nat.le_of_ble_eq_true rfl) rfl rfl rfl (Nat.le_of_ble_eq_true rfl) ⟨(Nat.le_of_ble_eq_true rfl), (Nat.le_of_ble_eq_true rfl)⟩ ⟨rfl, rfl⟩ ⟨(Nat.le_of_ble_eq_true rfl), (Nat.le_of_ble_eq_true rfl)⟩ ?_
      refine V_bipush hC (6) kX6_succeeds_110 (by decide) ?_
      refine V_isub hC kX6_succeeds_112 ?_
      refine V_cV_fI hC (ct_actsSteer hWr _ _ hI.hc5) mkX6_actsSteer lmX6_157 kX6_succeeds_113 (Nat.le_of_ble_eq_true rfl) rfl rfl rfl (Nat.le_of_ble_eq_true rfl) ⟨(Nat.le_of_ble_eq_true rfl), (Nat.le_of_ble_eq_true rfl)⟩ ⟨rfl, rfl⟩ ⟨(Nat.le_of_ble_eq_true rfl), (Nat.le_of_ble_eq_true rfl)⟩ ?_
      refine V_iconst hC (-1) kX6_succeeds_116 (by decide) ?_
      refine V_icmp_eq hC 124 kX6_succeeds_117 (by decide) (fun h117 => ?_) (fun h117 => ?_)
      · refine V_iconst hC (0) kX6_succeeds_124 (by decide) ?_
        refine V_iretz hC rfl kX6_succeeds_125 ?_ ?_
        · first | exact Or.inl rfl | exact Or.inr rfl
        · rw [et]
          first
          | (have hq := h100
             have hn : ¬ cS2 (sg (mo + 1)) (sg (mo + 7)) := fun z => hq (z.1)
             refine ⟨cI ?_, ?_⟩
             · show 0 = b01 (cS2 (sg (mo + 1)) (sg (mo + 7)))
               exact (b01_f hn).symm
             · show _ = upr sg (mo + 1) (if cS2 (sg (mo + 1)) (sg (mo + 7)) then _ else sg (mo + 1))
               rw [if_neg hn, upr_self])
          | (have hq := (ite_m1.mp h117)
             have hn : ¬ cS2 (sg (mo + 1)) (sg (mo + 7)) := fun z => hq (z.2)
             refine ⟨cI ?_, ?_⟩
             · show 0 = b01 (cS2 (sg (mo + 1)) (sg (mo + 7)))
               exact (b01_f hn).symm
             · show _ = upr sg (mo + 1) (if cS2 (sg (mo + 1)) (sg (mo + 7)) then _ else sg (mo + 1))
               rw [if_neg hn, upr_self]
               rw [if_neg hq, upr_self])
          | (have hp : cS2 (sg (mo + 1)) (sg (mo + 7)) := ⟨h100, Classical.not_not.mp (fun z => h117 (ite_m1.mpr z))⟩
             refine ⟨cI ?_, ?_⟩
             · show 1 = b01 (cS2 (sg (mo + 1)) (sg (mo + 7)))
               exact (b01_t hp).symm
             · show _ = upr sg (mo + 1) (if cS2 (sg (mo + 1)) (sg (mo + 7)) then _ else sg (mo + 1))
               rw [if_pos hp, if_pos (show _ from hp.2)])
      · refine V_iconst hC (1) kX6_succeeds_120 (by decide) ?_
        refine V_goto hC 125 kX6_succeeds_121 (by decide) ?_
        refine V_iretz hC rfl kX6_succeeds_125 ?_ ?_
        · first | exact Or.inl rfl | exact Or.inr rfl
        · rw [et]
          first
          | (have hq := h100
             have hn : ¬ cS2 (sg (mo + 1)) (sg (mo + 7)) := fun z => hq (z.1)
             refine ⟨cI ?_, ?_⟩
             · show 0 = b01 (cS2 (sg (mo + 1)) (sg (mo + 7)))
               exact (b01_f hn).symm
             · show _ = upr sg (mo + 1) (if cS2 (sg (mo + 1)) (sg (mo + 7)) then _ else sg (mo + 1))
               rw [if_neg hn, upr_self])
          | (have hq := (ite_m1.mp h117)
             have hn : ¬ cS2 (sg (mo + 1)) (sg (mo + 7)) := fun z => hq (z.2)
             refine ⟨cI ?_, ?_⟩
             · show 0 = b01 (cS2 (sg (mo + 1)) (sg (mo + 7)))
               exact (b01_f hn).symm
             · show _ = upr sg (mo + 1) (if cS2 (sg (mo + 1)) (sg (mo + 7)) then _ else sg (mo + 1))
               rw [if_neg hn, upr_self]
               rw [if_neg hq, upr_self])
          | (have hp : cS2 (sg (mo + 1)) (sg (mo + 7)) := ⟨h100, Classical.not_not.mp (fun z => h117 (ite_m1.mpr z))⟩
             refine ⟨cI ?_, ?_⟩
             · show 1 = b01 (cS2 (sg (mo + 1)) (sg (mo + 7)))
               exact (b01_t hp).symm
             · show _ = upr sg (mo + 1) (if cS2 (sg (mo + 1)) (sg (mo + 7)) then _ else sg (mo + 1))
               rw [if_pos hp, if_pos (show _ from hp.2)])
  · subst hDn
    have et : tn (sg (mo + 7) 0) = 3 := by rw [eD]; rfl
    refine V_tabIn hC (113) 126 kX6_succeeds_13 (by rw [eD]; decide) (by rw [eD]; decide) (by rw [eD]; rfl) (by decide) ?_
    refine V_aload_n hC kX6_succeeds_126 rfl ?_
    refine V_iconst hC (2) kX6_succeeds_127 (by decide) ?_
    refine V_cV_fI hC (ct_pair hWr 2 (by decide) rfl) mkX6_pair lmX6_215 kX6_succeeds_128 (Nat.le_of_ble_eq_true rfl) rfl rfl rfl (Nat.le_of_ble_eq_true rfl) ⟨(Nat.le_of_ble_eq_true rfl), (Nat.le_of_ble_eq_true rfl)⟩ ⟨rfl, rfl⟩ ⟨(Nat.le_of_ble_eq_true rfl), (Nat.le_of_ble_eq_true rfl)⟩ ?_
    refine V_if_ne hC 152 kX6_succeeds_131 (by decide) (fun h131 => ?_) (fun h131 => ?_)
    · refine V_iconst hC (0) kX6_succeeds_152 (by decide) ?_
      refine V_iretz hC rfl kX6_succeeds_153 ?_ ?_
      · first | exact Or.inl rfl | exact Or.inr rfl
      · rw [et]
        first
        | (have hq := h131
           have hn : ¬ cS3 (sg (mo + 1)) (sg (mo + 7)) := fun z => hq (z.1)
           refine ⟨cI ?_, ?_⟩
           · show 0 = b01 (cS3 (sg (mo + 1)) (sg (mo + 7)))
             exact (b01_f hn).symm
           · show _ = upr sg (mo + 1) (if cS3 (sg (mo + 1)) (sg (mo + 7)) then _ else sg (mo + 1))
             rw [if_neg hn, upr_self])
        | (have hq := (ite_m1.mp h145)
           have hn : ¬ cS3 (sg (mo + 1)) (sg (mo + 7)) := fun z => hq (z.2)
           refine ⟨cI ?_, ?_⟩
           · show 0 = b01 (cS3 (sg (mo + 1)) (sg (mo + 7)))
             exact (b01_f hn).symm
           · show _ = upr sg (mo + 1) (if cS3 (sg (mo + 1)) (sg (mo + 7)) then _ else sg (mo + 1))
             rw [if_neg hn, upr_self]
             rw [if_neg hq, upr_self])
        | (have hp : cS3 (sg (mo + 1)) (sg (mo + 7)) := ⟨h131, Classical.not_not.mp (fun z => h145 (ite_m1.mpr z))⟩
           refine ⟨cI ?_, ?_⟩
           · show 1 = b01 (cS3 (sg (mo + 1)) (sg (mo + 7)))
             exact (b01_t hp).symm
           · show _ = upr sg (mo + 1) (if cS3 (sg (mo + 1)) (sg (mo + 7)) then _ else sg (mo + 1))
             rw [if_pos hp, if_pos (show _ from hp.2)])
    · refine V_aload_n hC kX6_succeeds_134 rfl ?_
      refine V_iload_n hC kX6_succeeds_135 rfl ?_
      refine V_aload_n hC kX6_succeeds_136 rfl ?_
      refine V_iconst hC (4) kX6_succeeds_137 (by decide) ?_
      refine V_cV_fI hC (ct_pair hWr 4 (by decide) rfl) mkX6_pair lmX6_215 kX6_succeeds_138 (Nat.le_of_ble_eq_true rfl) rfl rfl rfl (Nat.le_of_ble_eq_true rfl) ⟨(Nat.le_of_ble_eq_true rfl), (Nat.le_of_ble_eq_true rfl)⟩ ⟨rfl, rfl⟩ ⟨(Nat.le_of_ble_eq_true rfl), (Nat.le_of_ble_eq_true rfl)⟩ ?_
      refine V_cV_fI hC (ct_actsTalk hWr _ _ hI.hc5) mkX6_actsTalk lmX6_160 kX6_succeeds_141 (Nat.le_of_ble_eq_true rfl) rfl rfl rfl (Nat.le_of_ble_eq_true rfl) ⟨(Nat.le_of_ble_eq_true rfl), (Nat.le_of_ble_eq_true rfl)⟩ ⟨rfl, rfl⟩ ⟨(Nat.le_of_ble_eq_true rfl), (Nat.le_of_ble_eq_true rfl)⟩ ?_
      refine V_iconst hC (-1) kX6_succeeds_144 (by decide) ?_
      refine V_icmp_eq hC 152 kX6_succeeds_145 (by decide) (fun h145 => ?_) (fun h145 => ?_)
      · refine V_iconst hC (0) kX6_succeeds_152 (by decide) ?_
        refine V_iretz hC rfl kX6_succeeds_153 ?_ ?_
        · first | exact Or.inl rfl | exact Or.inr rfl
        · rw [et]
          first
          | (have hq := h131
             have hn : ¬ cS3 (sg (mo + 1)) (sg (mo + 7)) := fun z => hq (z.1)
             refine ⟨cI ?_, ?_⟩
             · show 0 = b01 (cS3 (sg (mo + 1)) (sg (mo + 7)))
               exact (b01_f hn).symm
             · show _ = upr sg (mo + 1) (if cS3 (sg (mo + 1)) (sg (mo + 7)) then _ else sg (mo + 1))
               rw [if_neg hn, upr_self])
          | (have hq := (ite_m1.mp h145)
             have hn : ¬ cS3 (sg (mo + 1)) (sg (mo + 7)) := fun z => hq (z.2)
             refine ⟨cI ?_, ?_⟩
             · show 0 = b01 (cS3 (sg (mo + 1)) (sg (mo + 7)))
               exact (b01_f hn).symm
             · show _ = upr sg (mo + 1) (if cS3 (sg (mo + 1)) (sg (mo + 7)) then _ else sg (mo + 1))
               rw [if_neg hn, upr_self]
               rw [if_neg hq, upr_self])
          | (have hp : cS3 (sg (mo + 1)) (sg (mo + 7)) := ⟨h131, Classical.not_not.mp (fun z => h145 (ite_m1.mpr z))⟩
             refine ⟨cI ?_, ?_⟩
             · show 1 = b01 (cS3 (sg (mo + 1)) (sg (mo + 7)))
               exact (b01_t hp).symm
             · show _ = upr sg (mo + 1) (if cS3 (sg (mo + 1)) (sg (mo + 7)) then _ else sg (mo + 1))
               rw [if_pos hp, if_pos (show _ from hp.2)])
      · refine V_iconst hC (1) kX6_succeeds_148 (by decide) ?_
        refine V_goto hC 153 kX6_succeeds_149 (by decide) ?_
        refine V_iretz hC rfl kX6_succeeds_153 ?_ ?_
        · first | exact Or.inl rfl | exact Or.inr rfl
        · rw [et]
          first
          | (have hq := h131
             have hn : ¬ cS3 (sg (mo + 1)) (sg (mo + 7)) := fun z => hq (z.1)
             refine ⟨cI ?_, ?_⟩
             · show 0 = b01 (cS3 (sg (mo + 1)) (sg (mo + 7)))
               exact (b01_f hn).symm
             · show _ = upr sg (mo + 1) (if cS3 (sg (mo + 1)) (sg (mo + 7)) then _ else sg (mo + 1))
               rw [if_neg hn, upr_self])
          | (have hq := (ite_m1.mp h145)
             have hn : ¬ cS3 (sg (mo + 1)) (sg (mo + 7)) := fun z => hq (z.2)
             refine ⟨cI ?_, ?_⟩
             · show 0 = b01 (cS3 (sg (mo + 1)) (sg (mo + 7)))
               exact (b01_f hn).symm
             · show _ = upr sg (mo + 1) (if cS3 (sg (mo + 1)) (sg (mo + 7)) then _ else sg (mo + 1))
               rw [if_neg hn, upr_self]
               rw [if_neg hq, upr_self])
          | (have hp : cS3 (sg (mo + 1)) (sg (mo + 7)) := ⟨h131, Classical.not_not.mp (fun z => h145 (ite_m1.mpr z))⟩
             refine ⟨cI ?_, ?_⟩
             · show 1 = b01 (cS3 (sg (mo + 1)) (sg (mo + 7)))
               exact (b01_t hp).symm
             · show _ = upr sg (mo + 1) (if cS3 (sg (mo + 1)) (sg (mo + 7)) then _ else sg (mo + 1))
               rw [if_pos hp, if_pos (show _ from hp.2)])
  · subst hDn
    have et : tn (sg (mo + 7) 0) = 4 := by rw [eD]; rfl
    refine V_tabIn hC (141) 154 kX6_succeeds_13 (by rw [eD]; decide) (by rw [eD]; decide) (by rw [eD]; rfl) (by decide) ?_
    refine V_aload_n hC kX6_succeeds_154 rfl ?_
    refine V_getR hC hWr 6 13 lfX6_29 kX6_succeeds_155 (Nat.le_of_ble_eq_true rfl) (Nat.le_of_ble_eq_true rfl) rfl ?_
    refine V_iconst hC (2) kX6_succeeds_158 (by decide) ?_
    refine V_iald hC 2 rfl kX6_succeeds_159 (vp_lit rfl) ?_
    refine V_if_ne hC 191 kX6_succeeds_160 (by decide) (fun h160 => ?_) (fun h160 => ?_)
    · refine V_iconst hC (0) kX6_succeeds_191 (by decide) ?_
      refine V_iretz hC rfl kX6_succeeds_192 ?_ ?_
      · first | exact Or.inl rfl | exact Or.inr rfl
      · rw [et]
        first
        | (have hq := h160
           have hn : ¬ cS4 (sg (mo + 1)) (sg (mo + 7)) := fun z => hq (z.1)
           refine ⟨cI ?_, ?_⟩
           · show 0 = b01 (cS4 (sg (mo + 1)) (sg (mo + 7)))
             exact (b01_f hn).symm
           · show _ = upr sg (mo + 1) (if cS4 (sg (mo + 1)) (sg (mo + 7)) then _ else sg (mo + 1))
             rw [if_neg hn, upr_self])
        | (have hq := (ite_m1.mp h184)
           have hn : ¬ cS4 (sg (mo + 1)) (sg (mo + 7)) := fun z => hq (z.2)
           refine ⟨cI ?_, ?_⟩
           · show 0 = b01 (cS4 (sg (mo + 1)) (sg (mo + 7)))
             exact (b01_f hn).symm
           · show _ = upr sg (mo + 1) (if cS4 (sg (mo + 1)) (sg (mo + 7)) then _ else sg (mo + 1))
             rw [if_neg hn, upr_self]
             rw [if_neg hq, upr_self])
        | (have hp : cS4 (sg (mo + 1)) (sg (mo + 7)) := ⟨h160, Classical.not_not.mp (fun z => h184 (ite_m1.mpr z))⟩
           refine ⟨cI ?_, ?_⟩
           · show 1 = b01 (cS4 (sg (mo + 1)) (sg (mo + 7)))
             exact (b01_t hp).symm
           · show _ = upr sg (mo + 1) (if cS4 (sg (mo + 1)) (sg (mo + 7)) then _ else sg (mo + 1))
             rw [if_pos hp, if_pos (show _ from hp.2)])
    · refine V_aload_n hC kX6_succeeds_163 rfl ?_
      refine V_iload_n hC kX6_succeeds_164 rfl ?_
      refine V_bipush hC (100) kX6_succeeds_165 (by decide) ?_
      refine V_aload_n hC kX6_succeeds_167 rfl ?_
      refine V_getR hC hWr 6 13 lfX6_29 kX6_succeeds_168 (Nat.le_of_ble_eq_true rfl) (Nat.le_of_ble_eq_true rfl) rfl ?_
      refine V_iconst hC (3) kX6_succeeds_171 (by decide) ?_
      refine V_iald hC 3 rfl kX6_succeeds_172 (vp_lit rfl) ?_
      refine V_imul hC kX6_succeeds_173 ?_
      refine V_aload_n hC kX6_succeeds_174 rfl ?_
      refine V_iconst hC (4) kX6_succeeds_175 (by decide) ?_
      refine V_cV_fI hC (ct_pair hWr 4 (by decide) rfl) mkX6_pair lmX6_215 kX6_succeeds_176 (Nat.le_of_ble_eq_true rfl) rfl rfl rfl (Nat.le_of_ble_eq_true rfl) ⟨(Nat.le_of_ble_eq_true rfl), (Nat.le_of_ble_eq_true rfl)⟩ ⟨rfl, rfl⟩ ⟨(Nat.le_of_ble_eq_true rfl), (Nat.le_of_ble_eq_true rfl)⟩ ?_
      refine V_iadd hC kX6_succeeds_179 ?_
      refine V_cV_fI hC (ct_actsSet hWr _ _) mkX6_actsSet lmX6_163 kX6_succeeds_180 (Nat.le_of_ble_eq_true rfl) rfl rfl rfl (Nat.le_of_ble_eq_true rfl) ⟨(Nat.le_of_ble_eq_true rfl), (Nat.le_of_ble_eq_true rfl)⟩ ⟨rfl, rfl⟩ ⟨(Nat.le_of_ble_eq_true rfl), (Nat.le_of_ble_eq_true rfl)⟩ ?_
      refine V_iconst hC (-1) kX6_succeeds_183 (by decide) ?_
      refine V_icmp_eq hC 191 kX6_succeeds_184 (by decide) (fun h184 => ?_) (fun h184 => ?_)
      · refine V_iconst hC (0) kX6_succeeds_191 (by decide) ?_
        refine V_iretz hC rfl kX6_succeeds_192 ?_ ?_
        · first | exact Or.inl rfl | exact Or.inr rfl
        · rw [et]
          first
          | (have hq := h160
             have hn : ¬ cS4 (sg (mo + 1)) (sg (mo + 7)) := fun z => hq (z.1)
             refine ⟨cI ?_, ?_⟩
             · show 0 = b01 (cS4 (sg (mo + 1)) (sg (mo + 7)))
               exact (b01_f hn).symm
             · show _ = upr sg (mo + 1) (if cS4 (sg (mo + 1)) (sg (mo + 7)) then _ else sg (mo + 1))
               rw [if_neg hn, upr_self])
          | (have hq := (ite_m1.mp h184)
             have hn : ¬ cS4 (sg (mo + 1)) (sg (mo + 7)) := fun z => hq (z.2)
             refine ⟨cI ?_, ?_⟩
             · show 0 = b01 (cS4 (sg (mo + 1)) (sg (mo + 7)))
               exact (b01_f hn).symm
             · show _ = upr sg (mo + 1) (if cS4 (sg (mo + 1)) (sg (mo + 7)) then _ else sg (mo + 1))
               rw [if_neg hn, upr_self]
               rw [if_neg hq, upr_self])
          | (have hp : cS4 (sg (mo + 1)) (sg (mo + 7)) := ⟨h160, Classical.not_not.mp (fun z => h184 (ite_m1.mpr z))⟩
             refine ⟨cI ?_, ?_⟩
             · show 1 = b01 (cS4 (sg (mo + 1)) (sg (mo + 7)))
               exact (b01_t hp).symm
             · show _ = upr sg (mo + 1) (if cS4 (sg (mo + 1)) (sg (mo + 7)) then _ else sg (mo + 1))
               rw [if_pos hp, if_pos (show _ from hp.2)])
      · refine V_iconst hC (1) kX6_succeeds_187 (by decide) ?_
        refine V_goto hC 192 kX6_succeeds_188 (by decide) ?_
        refine V_iretz hC rfl kX6_succeeds_192 ?_ ?_
        · first | exact Or.inl rfl | exact Or.inr rfl
        · rw [et]
          first
          | (have hq := h160
             have hn : ¬ cS4 (sg (mo + 1)) (sg (mo + 7)) := fun z => hq (z.1)
             refine ⟨cI ?_, ?_⟩
             · show 0 = b01 (cS4 (sg (mo + 1)) (sg (mo + 7)))
               exact (b01_f hn).symm
             · show _ = upr sg (mo + 1) (if cS4 (sg (mo + 1)) (sg (mo + 7)) then _ else sg (mo + 1))
               rw [if_neg hn, upr_self])
          | (have hq := (ite_m1.mp h184)
             have hn : ¬ cS4 (sg (mo + 1)) (sg (mo + 7)) := fun z => hq (z.2)
             refine ⟨cI ?_, ?_⟩
             · show 0 = b01 (cS4 (sg (mo + 1)) (sg (mo + 7)))
               exact (b01_f hn).symm
             · show _ = upr sg (mo + 1) (if cS4 (sg (mo + 1)) (sg (mo + 7)) then _ else sg (mo + 1))
               rw [if_neg hn, upr_self]
               rw [if_neg hq, upr_self])
          | (have hp : cS4 (sg (mo + 1)) (sg (mo + 7)) := ⟨h160, Classical.not_not.mp (fun z => h184 (ite_m1.mpr z))⟩
             refine ⟨cI ?_, ?_⟩
             · show 1 = b01 (cS4 (sg (mo + 1)) (sg (mo + 7)))
               exact (b01_t hp).symm
             · show _ = upr sg (mo + 1) (if cS4 (sg (mo + 1)) (sg (mo + 7)) then _ else sg (mo + 1))
               rw [if_pos hp, if_pos (show _ from hp.2)])
  · subst hDn
    have et : tn (sg (mo + 7) 0) = 5 := by rw [eD]; rfl
    refine V_tabIn hC (180) 193 kX6_succeeds_13 (by rw [eD]; decide) (by rw [eD]; decide) (by rw [eD]; rfl) (by decide) ?_
    refine V_aload_n hC kX6_succeeds_193 rfl ?_
    refine V_iconst hC (2) kX6_succeeds_194 (by decide) ?_
    refine V_cV_fI hC (ct_pair hWr 2 (by decide) rfl) mkX6_pair lmX6_215 kX6_succeeds_195 (Nat.le_of_ble_eq_true rfl) rfl rfl rfl (Nat.le_of_ble_eq_true rfl) ⟨(Nat.le_of_ble_eq_true rfl), (Nat.le_of_ble_eq_true rfl)⟩ ⟨rfl, rfl⟩ ⟨(Nat.le_of_ble_eq_true rfl), (Nat.le_of_ble_eq_true rfl)⟩ ?_
    refine V_if_ne hC 222 kX6_succeeds_198 (by decide) (fun h198 => ?_) (fun h198 => ?_)
    · refine V_iconst hC (0) kX6_succeeds_222 (by decide) ?_
      refine V_iretz hC rfl kX6_succeeds_223 ?_ ?_
      · first | exact Or.inl rfl | exact Or.inr rfl
      · rw [et]
        first
        | (have hq := h198
           have hn : ¬ cS5 (sg (mo + 1)) (sg (mo + 7)) := fun z => hq (z.1)
           refine ⟨cI ?_, ?_⟩
           · show 0 = b01 (cS5 (sg (mo + 1)) (sg (mo + 7)))
             exact (b01_f hn).symm
           · show _ = upr sg (mo + 1) (if cS5 (sg (mo + 1)) (sg (mo + 7)) then _ else sg (mo + 1))
             rw [if_neg hn, upr_self])
        | (have hq := (ite_m1.mp h215)
           have hn : ¬ cS5 (sg (mo + 1)) (sg (mo + 7)) := fun z => hq (z.2)
           refine ⟨cI ?_, ?_⟩
           · show 0 = b01 (cS5 (sg (mo + 1)) (sg (mo + 7)))
             exact (b01_f hn).symm
           · show _ = upr sg (mo + 1) (if cS5 (sg (mo + 1)) (sg (mo + 7)) then _ else sg (mo + 1))
             rw [if_neg hn, upr_self]
             rw [if_neg hq, upr_self])
        | (have hp : cS5 (sg (mo + 1)) (sg (mo + 7)) := ⟨h198, Classical.not_not.mp (fun z => h215 (ite_m1.mpr z))⟩
           refine ⟨cI ?_, ?_⟩
           · show 1 = b01 (cS5 (sg (mo + 1)) (sg (mo + 7)))
             exact (b01_t hp).symm
           · show _ = upr sg (mo + 1) (if cS5 (sg (mo + 1)) (sg (mo + 7)) then _ else sg (mo + 1))
             rw [if_pos hp, if_pos (show _ from hp.2)])
    · refine V_aload_n hC kX6_succeeds_201 rfl ?_
      refine V_iload_n hC kX6_succeeds_202 rfl ?_
      refine V_aload_n hC kX6_succeeds_203 rfl ?_
      refine V_iconst hC (4) kX6_succeeds_204 (by decide) ?_
      refine V_cV_fI hC (ct_pair hWr 4 (by decide) rfl) mkX6_pair lmX6_215 kX6_succeeds_205 (Nat.le_of_ble_eq_true rfl) rfl rfl rfl (Nat.le_of_ble_eq_true rfl) ⟨(Nat.le_of_ble_eq_true rfl), (Nat.le_of_ble_eq_true rfl)⟩ ⟨rfl, rfl⟩ ⟨(Nat.le_of_ble_eq_true rfl), (Nat.le_of_ble_eq_true rfl)⟩ ?_
      refine V_bipush hC (30) kX6_succeeds_208 (by decide) ?_
      refine V_isub hC kX6_succeeds_210 ?_
      refine V_cV_fI hC (ct_actsLean hWr _ _ hI.hc4) mkX6_actsLean lmX6_200 kX6_succeeds_211 (Nat.le_of_ble_eq_true rfl) rfl rfl rfl (Nat.le_of_ble_eq_true rfl) ⟨(Nat.le_of_ble_eq_true rfl), (Nat.le_of_ble_eq_true rfl)⟩ ⟨rfl, rfl⟩ ⟨(Nat.le_of_ble_eq_true rfl), (Nat.le_of_ble_eq_true rfl)⟩ ?_
      refine V_iconst hC (-1) kX6_succeeds_214 (by decide) ?_
      refine V_icmp_eq hC 222 kX6_succeeds_215 (by decide) (fun h215 => ?_) (fun h215 => ?_)
      · refine V_iconst hC (0) kX6_succeeds_222 (by decide) ?_
        refine V_iretz hC rfl kX6_succeeds_223 ?_ ?_
        · first | exact Or.inl rfl | exact Or.inr rfl
        · rw [et]
          first
          | (have hq := h198
             have hn : ¬ cS5 (sg (mo + 1)) (sg (mo + 7)) := fun z => hq (z.1)
             refine ⟨cI ?_, ?_⟩
             · show 0 = b01 (cS5 (sg (mo + 1)) (sg (mo + 7)))
               exact (b01_f hn).symm
             · show _ = upr sg (mo + 1) (if cS5 (sg (mo + 1)) (sg (mo + 7)) then _ else sg (mo + 1))
               rw [if_neg hn, upr_self])
          | (have hq := (ite_m1.mp h215)
             have hn : ¬ cS5 (sg (mo + 1)) (sg (mo + 7)) := fun z => hq (z.2)
             refine ⟨cI ?_, ?_⟩
             · show 0 = b01 (cS5 (sg (mo + 1)) (sg (mo + 7)))
               exact (b01_f hn).symm
             · show _ = upr sg (mo + 1) (if cS5 (sg (mo + 1)) (sg (mo + 7)) then _ else sg (mo + 1))
               rw [if_neg hn, upr_self]
               rw [if_neg hq, upr_self])
          | (have hp : cS5 (sg (mo + 1)) (sg (mo + 7)) := ⟨h198, Classical.not_not.mp (fun z => h215 (ite_m1.mpr z))⟩
             refine ⟨cI ?_, ?_⟩
             · show 1 = b01 (cS5 (sg (mo + 1)) (sg (mo + 7)))
               exact (b01_t hp).symm
             · show _ = upr sg (mo + 1) (if cS5 (sg (mo + 1)) (sg (mo + 7)) then _ else sg (mo + 1))
               rw [if_pos hp, if_pos (show _ from hp.2)])
      · refine V_iconst hC (1) kX6_succeeds_218 (by decide) ?_
        refine V_goto hC 223 kX6_succeeds_219 (by decide) ?_
        refine V_iretz hC rfl kX6_succeeds_223 ?_ ?_
        · first | exact Or.inl rfl | exact Or.inr rfl
        · rw [et]
          first
          | (have hq := h198
             have hn : ¬ cS5 (sg (mo + 1)) (sg (mo + 7)) := fun z => hq (z.1)
             refine ⟨cI ?_, ?_⟩
             · show 0 = b01 (cS5 (sg (mo + 1)) (sg (mo + 7)))
               exact (b01_f hn).symm
             · show _ = upr sg (mo + 1) (if cS5 (sg (mo + 1)) (sg (mo + 7)) then _ else sg (mo + 1))
               rw [if_neg hn, upr_self])
          | (have hq := (ite_m1.mp h215)
             have hn : ¬ cS5 (sg (mo + 1)) (sg (mo + 7)) := fun z => hq (z.2)
             refine ⟨cI ?_, ?_⟩
             · show 0 = b01 (cS5 (sg (mo + 1)) (sg (mo + 7)))
               exact (b01_f hn).symm
             · show _ = upr sg (mo + 1) (if cS5 (sg (mo + 1)) (sg (mo + 7)) then _ else sg (mo + 1))
               rw [if_neg hn, upr_self]
               rw [if_neg hq, upr_self])
          | (have hp : cS5 (sg (mo + 1)) (sg (mo + 7)) := ⟨h198, Classical.not_not.mp (fun z => h215 (ite_m1.mpr z))⟩
             refine ⟨cI ?_, ?_⟩
             · show 1 = b01 (cS5 (sg (mo + 1)) (sg (mo + 7)))
               exact (b01_t hp).symm
             · show _ = upr sg (mo + 1) (if cS5 (sg (mo + 1)) (sg (mo + 7)) then _ else sg (mo + 1))
               rw [if_pos hp, if_pos (show _ from hp.2)])
  · subst hDn
    have et : tn (sg (mo + 7) 0) = 6 := by rw [eD]; rfl
    refine V_tabIn hC (211) 224 kX6_succeeds_13 (by rw [eD]; decide) (by rw [eD]; decide) (by rw [eD]; rfl) (by decide) ?_
    refine V_aload_n hC kX6_succeeds_224 rfl ?_
    refine V_iconst hC (2) kX6_succeeds_225 (by decide) ?_
    refine V_cV_fI hC (ct_pair hWr 2 (by decide) rfl) mkX6_pair lmX6_215 kX6_succeeds_226 (Nat.le_of_ble_eq_true rfl) rfl rfl rfl (Nat.le_of_ble_eq_true rfl) ⟨(Nat.le_of_ble_eq_true rfl), (Nat.le_of_ble_eq_true rfl)⟩ ⟨rfl, rfl⟩ ⟨(Nat.le_of_ble_eq_true rfl), (Nat.le_of_ble_eq_true rfl)⟩ ?_
    refine V_if_ne hC 283 kX6_succeeds_229 (by decide) (fun h229 => ?_) (fun h229 => ?_)
    · refine V_iconst hC (0) kX6_succeeds_283 (by decide) ?_
      refine V_iretz hC rfl kX6_succeeds_284 ?_ ?_
      · first | exact Or.inl rfl | exact Or.inr rfl
      · rw [et]
        first
        | (have hq := h229
           have hn : ¬ cS6 (sg (mo + 1)) (sg (mo + 7)) := fun z => hq (z.1)
           refine ⟨cI ?_, ?_⟩
           · show 0 = b01 (cS6 (sg (mo + 1)) (sg (mo + 7)))
             exact (b01_f hn).symm
           · exact (upr_self _ _).symm)
        | (have hq := h238
           have hn : ¬ cS6 (sg (mo + 1)) (sg (mo + 7)) := fun z => hq (z.2.1)
           refine ⟨cI ?_, ?_⟩
           · show 0 = b01 (cS6 (sg (mo + 1)) (sg (mo + 7)))
             exact (b01_f hn).symm
           · exact (upr_self _ _).symm)
        | (have hq := (b01e.mp h246)
           have hn : ¬ cS6 (sg (mo + 1)) (sg (mo + 7)) := fun z => hq (z.2.2.1)
           refine ⟨cI ?_, ?_⟩
           · show 0 = b01 (cS6 (sg (mo + 1)) (sg (mo + 7)))
             exact (b01_f hn).symm
           · exact (upr_self _ _).symm)
        | (have hq := (b01e.mp h259)
           have hn : ¬ cS6 (sg (mo + 1)) (sg (mo + 7)) := fun z => hq (z.2.2.2.1)
           refine ⟨cI ?_, ?_⟩
           · show 0 = b01 (cS6 (sg (mo + 1)) (sg (mo + 7)))
             exact (b01_f hn).symm
           · exact (upr_self _ _).symm)
        | (have hq := h276
           have hn : ¬ cS6 (sg (mo + 1)) (sg (mo + 7)) := fun z => hq (z.2.2.2.2)
           refine ⟨cI ?_, ?_⟩
           · show 0 = b01 (cS6 (sg (mo + 1)) (sg (mo + 7)))
             exact (b01_f hn).symm
           · exact (upr_self _ _).symm)
        | (have hp : cS6 (sg (mo + 1)) (sg (mo + 7)) := ⟨h229, h238, b01n.mp h246, b01n.mp h259, h276⟩
           refine ⟨cI ?_, ?_⟩
           · show 1 = b01 (cS6 (sg (mo + 1)) (sg (mo + 7)))
             exact (b01_t hp).symm
           · exact (upr_self _ _).symm)
    · refine V_aload_n hC kX6_succeeds_232 rfl ?_
      refine V_getR hC hWr 6 13 lfX6_29 kX6_succeeds_233 (Nat.le_of_ble_eq_true rfl) (Nat.le_of_ble_eq_true rfl) rfl ?_
      refine V_iconst hC (4) kX6_succeeds_236 (by decide) ?_
      refine V_iald hC 4 rfl kX6_succeeds_237 (vp_lit rfl) ?_
      refine V_if_ne hC 283 kX6_succeeds_238 (by decide) (fun h238 => ?_) (fun h238 => ?_)
      · refine V_iconst hC (0) kX6_succeeds_283 (by decide) ?_
        refine V_iretz hC rfl kX6_succeeds_284 ?_ ?_
        · first | exact Or.inl rfl | exact Or.inr rfl
        · rw [et]
          first
          | (have hq := h229
             have hn : ¬ cS6 (sg (mo + 1)) (sg (mo + 7)) := fun z => hq (z.1)
             refine ⟨cI ?_, ?_⟩
             · show 0 = b01 (cS6 (sg (mo + 1)) (sg (mo + 7)))
               exact (b01_f hn).symm
             · exact (upr_self _ _).symm)
          | (have hq := h238
             have hn : ¬ cS6 (sg (mo + 1)) (sg (mo + 7)) := fun z => hq (z.2.1)
             refine ⟨cI ?_, ?_⟩
             · show 0 = b01 (cS6 (sg (mo + 1)) (sg (mo + 7)))
               exact (b01_f hn).symm
             · exact (upr_self _ _).symm)
          | (have hq := (b01e.mp h246)
             have hn : ¬ cS6 (sg (mo + 1)) (sg (mo + 7)) := fun z => hq (z.2.2.1)
             refine ⟨cI ?_, ?_⟩
             · show 0 = b01 (cS6 (sg (mo + 1)) (sg (mo + 7)))
               exact (b01_f hn).symm
             · exact (upr_self _ _).symm)
          | (have hq := (b01e.mp h259)
             have hn : ¬ cS6 (sg (mo + 1)) (sg (mo + 7)) := fun z => hq (z.2.2.2.1)
             refine ⟨cI ?_, ?_⟩
             · show 0 = b01 (cS6 (sg (mo + 1)) (sg (mo + 7)))
               exact (b01_f hn).symm
             · exact (upr_self _ _).symm)
          | (have hq := h276
             have hn : ¬ cS6 (sg (mo + 1)) (sg (mo + 7)) := fun z => hq (z.2.2.2.2)
             refine ⟨cI ?_, ?_⟩
             · show 0 = b01 (cS6 (sg (mo + 1)) (sg (mo + 7)))
               exact (b01_f hn).symm
             · exact (upr_self _ _).symm)
          | (have hp : cS6 (sg (mo + 1)) (sg (mo + 7)) := ⟨h229, h238, b01n.mp h246, b01n.mp h259, h276⟩
             refine ⟨cI ?_, ?_⟩
             · show 1 = b01 (cS6 (sg (mo + 1)) (sg (mo + 7)))
               exact (b01_t hp).symm
             · exact (upr_self _ _).symm)
      · refine V_aload_n hC kX6_succeeds_241 rfl ?_
        refine V_iload_n hC kX6_succeeds_242 rfl ?_
        refine V_cV_fI hC (ct_isBoat hWr _) mkX6_isBoat lmX6_108 kX6_succeeds_243 (Nat.le_of_ble_eq_true rfl) rfl rfl rfl (Nat.le_of_ble_eq_true rfl) ⟨(Nat.le_of_ble_eq_true rfl), (Nat.le_of_ble_eq_true rfl)⟩ ⟨rfl, rfl⟩ ⟨(Nat.le_of_ble_eq_true rfl), (Nat.le_of_ble_eq_true rfl)⟩ ?_
        refine V_if_eq hC 283 kX6_succeeds_246 (by decide) (fun h246 => ?_) (fun h246 => ?_)
        · refine V_iconst hC (0) kX6_succeeds_283 (by decide) ?_
          refine V_iretz hC rfl kX6_succeeds_284 ?_ ?_
          · first | exact Or.inl rfl | exact Or.inr rfl
          · rw [et]
            first
            | (have hq := h229
               have hn : ¬ cS6 (sg (mo + 1)) (sg (mo + 7)) := fun z => hq (z.1)
               refine ⟨cI ?_, ?_⟩
               · show 0 = b01 (cS6 (sg (mo + 1)) (sg (mo + 7)))
                 exact (b01_f hn).symm
               · exact (upr_self _ _).symm)
            | (have hq := h238
               have hn : ¬ cS6 (sg (mo + 1)) (sg (mo + 7)) := fun z => hq (z.2.1)
               refine ⟨cI ?_, ?_⟩
               · show 0 = b01 (cS6 (sg (mo + 1)) (sg (mo + 7)))
                 exact (b01_f hn).symm
               · exact (upr_self _ _).symm)
            | (have hq := (b01e.mp h246)
               have hn : ¬ cS6 (sg (mo + 1)) (sg (mo + 7)) := fun z => hq (z.2.2.1)
               refine ⟨cI ?_, ?_⟩
               · show 0 = b01 (cS6 (sg (mo + 1)) (sg (mo + 7)))
                 exact (b01_f hn).symm
               · exact (upr_self _ _).symm)
            | (have hq := (b01e.mp h259)
               have hn : ¬ cS6 (sg (mo + 1)) (sg (mo + 7)) := fun z => hq (z.2.2.2.1)
               refine ⟨cI ?_, ?_⟩
               · show 0 = b01 (cS6 (sg (mo + 1)) (sg (mo + 7)))
                 exact (b01_f hn).symm
               · exact (upr_self _ _).symm)
            | (have hq := h276
               have hn : ¬ cS6 (sg (mo + 1)) (sg (mo + 7)) := fun z => hq (z.2.2.2.2)
               refine ⟨cI ?_, ?_⟩
               · show 0 = b01 (cS6 (sg (mo + 1)) (sg (mo + 7)))
                 exact (b01_f hn).symm
               · exact (upr_self _ _).symm)
            | (have hp : cS6 (sg (mo + 1)) (sg (mo + 7)) := ⟨h229, h238, b01n.mp h246, b01n.mp h259, h276⟩
               refine ⟨cI ?_, ?_⟩
               · show 1 = b01 (cS6 (sg (mo + 1)) (sg (mo + 7)))
                 exact (b01_t hp).symm
               · exact (upr_self _ _).symm)
        · refine V_aload_n hC kX6_succeeds_249 rfl ?_
          refine V_aload_n hC kX6_succeeds_250 rfl ?_
          refine V_getR hC hWr 6 13 lfX6_29 kX6_succeeds_251 (Nat.le_of_ble_eq_true rfl) (Nat.le_of_ble_eq_true rfl) rfl ?_
          refine V_iconst hC (5) kX6_succeeds_254 (by decide) ?_
          refine V_iald hC 5 rfl kX6_succeeds_255 (vp_lit rfl) ?_
          refine V_cV_fI hC (ct_isLight hWr _) mkX6_isLight lmX6_114 kX6_succeeds_256 (Nat.le_of_ble_eq_true rfl) rfl rfl rfl (Nat.le_of_ble_eq_true rfl) ⟨(Nat.le_of_ble_eq_true rfl), (Nat.le_of_ble_eq_true rfl)⟩ ⟨rfl, rfl⟩ ⟨(Nat.le_of_ble_eq_true rfl), (Nat.le_of_ble_eq_true rfl)⟩ ?_
          refine V_if_eq hC 283 kX6_succeeds_259 (by decide) (fun h259 => ?_) (fun h259 => ?_)
          · refine V_iconst hC (0) kX6_succeeds_283 (by decide) ?_
            refine V_iretz hC rfl kX6_succeeds_284 ?_ ?_
            · first | exact Or.inl rfl | exact Or.inr rfl
            · rw [et]
              first
              | (have hq := h229
                 have hn : ¬ cS6 (sg (mo + 1)) (sg (mo + 7)) := fun z => hq (z.1)
                 refine ⟨cI ?_, ?_⟩
                 · show 0 = b01 (cS6 (sg (mo + 1)) (sg (mo + 7)))
                   exact (b01_f hn).symm
                 · exact (upr_self _ _).symm)
              | (have hq := h238
                 have hn : ¬ cS6 (sg (mo + 1)) (sg (mo + 7)) := fun z => hq (z.2.1)
                 refine ⟨cI ?_, ?_⟩
                 · show 0 = b01 (cS6 (sg (mo + 1)) (sg (mo + 7)))
                   exact (b01_f hn).symm
                 · exact (upr_self _ _).symm)
              | (have hq := (b01e.mp h246)
                 have hn : ¬ cS6 (sg (mo + 1)) (sg (mo + 7)) := fun z => hq (z.2.2.1)
                 refine ⟨cI ?_, ?_⟩
                 · show 0 = b01 (cS6 (sg (mo + 1)) (sg (mo + 7)))
                   exact (b01_f hn).symm
                 · exact (upr_self _ _).symm)
              | (have hq := (b01e.mp h259)
                 have hn : ¬ cS6 (sg (mo + 1)) (sg (mo + 7)) := fun z => hq (z.2.2.2.1)
                 refine ⟨cI ?_, ?_⟩
                 · show 0 = b01 (cS6 (sg (mo + 1)) (sg (mo + 7)))
                   exact (b01_f hn).symm
                 · exact (upr_self _ _).symm)
              | (have hq := h276
                 have hn : ¬ cS6 (sg (mo + 1)) (sg (mo + 7)) := fun z => hq (z.2.2.2.2)
                 refine ⟨cI ?_, ?_⟩
                 · show 0 = b01 (cS6 (sg (mo + 1)) (sg (mo + 7)))
                   exact (b01_f hn).symm
                 · exact (upr_self _ _).symm)
              | (have hp : cS6 (sg (mo + 1)) (sg (mo + 7)) := ⟨h229, h238, b01n.mp h246, b01n.mp h259, h276⟩
                 refine ⟨cI ?_, ?_⟩
                 · show 1 = b01 (cS6 (sg (mo + 1)) (sg (mo + 7)))
                   exact (b01_t hp).symm
                 · exact (upr_self _ _).symm)
          · refine V_aload_n hC kX6_succeeds_262 rfl ?_
            refine V_iload_n hC kX6_succeeds_263 rfl ?_
            refine V_iconst hC (2) kX6_succeeds_264 (by decide) ?_
            refine V_cV_fI hC (ct_ofBoat hWr _ 2 (vpB hI.hc5 (b01n.mp h246)) (vp_lit rfl)) mkX6_ofBoat lmX6_53 kX6_succeeds_265 (Nat.le_of_ble_eq_true rfl) rfl rfl rfl (Nat.le_of_ble_eq_true rfl) ⟨(Nat.le_of_ble_eq_true rfl), (Nat.le_of_ble_eq_true rfl)⟩ ⟨rfl, rfl⟩ ⟨(Nat.le_of_ble_eq_true rfl), (Nat.le_of_ble_eq_true rfl)⟩ ?_
            refine V_aload_n hC kX6_succeeds_268 rfl ?_
            refine V_getR hC hWr 6 13 lfX6_29 kX6_succeeds_269 (Nat.le_of_ble_eq_true rfl) (Nat.le_of_ble_eq_true rfl) rfl ?_
            refine V_iconst hC (5) kX6_succeeds_272 (by decide) ?_
            refine V_iald hC 5 rfl kX6_succeeds_273 (vp_lit rfl) ?_
            refine V_iconst hC (1) kX6_succeeds_274 (by decide) ?_
            refine V_iadd hC kX6_succeeds_275 ?_
            refine V_icmp_ne hC 283 kX6_succeeds_276 (by decide) (fun h276 => ?_) (fun h276 => ?_)
            · refine V_iconst hC (0) kX6_succeeds_283 (by decide) ?_
              refine V_iretz hC rfl kX6_succeeds_284 ?_ ?_
              · first | exact Or.inl rfl | exact Or.inr rfl
              · rw [et]
                first
                | (have hq := h229
                   have hn : ¬ cS6 (sg (mo + 1)) (sg (mo + 7)) := fun z => hq (z.1)
                   refine ⟨cI ?_, ?_⟩
                   · show 0 = b01 (cS6 (sg (mo + 1)) (sg (mo + 7)))
                     exact (b01_f hn).symm
                   · exact (upr_self _ _).symm)
                | (have hq := h238
                   have hn : ¬ cS6 (sg (mo + 1)) (sg (mo + 7)) := fun z => hq (z.2.1)
                   refine ⟨cI ?_, ?_⟩
                   · show 0 = b01 (cS6 (sg (mo + 1)) (sg (mo + 7)))
                     exact (b01_f hn).symm
                   · exact (upr_self _ _).symm)
                | (have hq := (b01e.mp h246)
                   have hn : ¬ cS6 (sg (mo + 1)) (sg (mo + 7)) := fun z => hq (z.2.2.1)
                   refine ⟨cI ?_, ?_⟩
                   · show 0 = b01 (cS6 (sg (mo + 1)) (sg (mo + 7)))
                     exact (b01_f hn).symm
                   · exact (upr_self _ _).symm)
                | (have hq := (b01e.mp h259)
                   have hn : ¬ cS6 (sg (mo + 1)) (sg (mo + 7)) := fun z => hq (z.2.2.2.1)
                   refine ⟨cI ?_, ?_⟩
                   · show 0 = b01 (cS6 (sg (mo + 1)) (sg (mo + 7)))
                     exact (b01_f hn).symm
                   · exact (upr_self _ _).symm)
                | (have hq := h276
                   have hn : ¬ cS6 (sg (mo + 1)) (sg (mo + 7)) := fun z => hq (z.2.2.2.2)
                   refine ⟨cI ?_, ?_⟩
                   · show 0 = b01 (cS6 (sg (mo + 1)) (sg (mo + 7)))
                     exact (b01_f hn).symm
                   · exact (upr_self _ _).symm)
                | (have hp : cS6 (sg (mo + 1)) (sg (mo + 7)) := ⟨h229, h238, b01n.mp h246, b01n.mp h259, h276⟩
                   refine ⟨cI ?_, ?_⟩
                   · show 1 = b01 (cS6 (sg (mo + 1)) (sg (mo + 7)))
                     exact (b01_t hp).symm
                   · exact (upr_self _ _).symm)
            · refine V_iconst hC (1) kX6_succeeds_279 (by decide) ?_
              refine V_goto hC 284 kX6_succeeds_280 (by decide) ?_
              refine V_iretz hC rfl kX6_succeeds_284 ?_ ?_
              · first | exact Or.inl rfl | exact Or.inr rfl
              · rw [et]
                first
                | (have hq := h229
                   have hn : ¬ cS6 (sg (mo + 1)) (sg (mo + 7)) := fun z => hq (z.1)
                   refine ⟨cI ?_, ?_⟩
                   · show 0 = b01 (cS6 (sg (mo + 1)) (sg (mo + 7)))
                     exact (b01_f hn).symm
                   · exact (upr_self _ _).symm)
                | (have hq := h238
                   have hn : ¬ cS6 (sg (mo + 1)) (sg (mo + 7)) := fun z => hq (z.2.1)
                   refine ⟨cI ?_, ?_⟩
                   · show 0 = b01 (cS6 (sg (mo + 1)) (sg (mo + 7)))
                     exact (b01_f hn).symm
                   · exact (upr_self _ _).symm)
                | (have hq := (b01e.mp h246)
                   have hn : ¬ cS6 (sg (mo + 1)) (sg (mo + 7)) := fun z => hq (z.2.2.1)
                   refine ⟨cI ?_, ?_⟩
                   · show 0 = b01 (cS6 (sg (mo + 1)) (sg (mo + 7)))
                     exact (b01_f hn).symm
                   · exact (upr_self _ _).symm)
                | (have hq := (b01e.mp h259)
                   have hn : ¬ cS6 (sg (mo + 1)) (sg (mo + 7)) := fun z => hq (z.2.2.2.1)
                   refine ⟨cI ?_, ?_⟩
                   · show 0 = b01 (cS6 (sg (mo + 1)) (sg (mo + 7)))
                     exact (b01_f hn).symm
                   · exact (upr_self _ _).symm)
                | (have hq := h276
                   have hn : ¬ cS6 (sg (mo + 1)) (sg (mo + 7)) := fun z => hq (z.2.2.2.2)
                   refine ⟨cI ?_, ?_⟩
                   · show 0 = b01 (cS6 (sg (mo + 1)) (sg (mo + 7)))
                     exact (b01_f hn).symm
                   · exact (upr_self _ _).symm)
                | (have hp : cS6 (sg (mo + 1)) (sg (mo + 7)) := ⟨h229, h238, b01n.mp h246, b01n.mp h259, h276⟩
                   refine ⟨cI ?_, ?_⟩
                   · show 1 = b01 (cS6 (sg (mo + 1)) (sg (mo + 7)))
                     exact (b01_t hp).symm
                   · exact (upr_self _ _).symm)
  · subst hDn
    have et : tn (sg (mo + 7) 0) = 7 := by rw [eD]; rfl
    refine V_tabIn hC (272) 285 kX6_succeeds_13 (by rw [eD]; decide) (by rw [eD]; decide) (by rw [eD]; rfl) (by decide) ?_
    refine V_aload_n hC kX6_succeeds_285 rfl ?_
    refine V_getR hC hWr 6 13 lfX6_29 kX6_succeeds_286 (Nat.le_of_ble_eq_true rfl) (Nat.le_of_ble_eq_true rfl) rfl ?_
    refine V_iconst hC (2) kX6_succeeds_289 (by decide) ?_
    refine V_iald hC 2 rfl kX6_succeeds_290 (vp_lit rfl) ?_
    refine V_if_ne hC 330 kX6_succeeds_291 (by decide) (fun h291 => ?_) (fun h291 => ?_)
    · refine V_iconst hC (0) kX6_succeeds_330 (by decide) ?_
      refine V_iretz hC rfl kX6_succeeds_331 ?_ ?_
      · first | exact Or.inl rfl | exact Or.inr rfl
      · rw [et]
        first
        | (have hq := h291
           have hn : ¬ cS7 (sg (mo + 1)) (sg (mo + 7)) := fun z => hq (z.1)
           refine ⟨cI ?_, ?_⟩
           · show 0 = b01 (cS7 (sg (mo + 1)) (sg (mo + 7)))
             exact (b01_f hn).symm
           · exact (upr_self _ _).symm)
        | (have hq := (b01e.mp h299)
           have hn : ¬ cS7 (sg (mo + 1)) (sg (mo + 7)) := fun z => hq (z.2.1)
           refine ⟨cI ?_, ?_⟩
           · show 0 = b01 (cS7 (sg (mo + 1)) (sg (mo + 7)))
             exact (b01_f hn).symm
           · exact (upr_self _ _).symm)
        | (have hq := h323
           have hn : ¬ cS7 (sg (mo + 1)) (sg (mo + 7)) := fun z => hq (z.2.2)
           refine ⟨cI ?_, ?_⟩
           · show 0 = b01 (cS7 (sg (mo + 1)) (sg (mo + 7)))
             exact (b01_f hn).symm
           · exact (upr_self _ _).symm)
        | (have hp : cS7 (sg (mo + 1)) (sg (mo + 7)) := ⟨h291, b01n.mp h299, h323⟩
           refine ⟨cI ?_, ?_⟩
           · show 1 = b01 (cS7 (sg (mo + 1)) (sg (mo + 7)))
             exact (b01_t hp).symm
           · exact (upr_self _ _).symm)
    · refine V_aload_n hC kX6_succeeds_294 rfl ?_
      refine V_iload_n hC kX6_succeeds_295 rfl ?_
      refine V_cV_fI hC (ct_isBoat hWr _) mkX6_isBoat lmX6_108 kX6_succeeds_296 (Nat.le_of_ble_eq_true rfl) rfl rfl rfl (Nat.le_of_ble_eq_true rfl) ⟨(Nat.le_of_ble_eq_true rfl), (Nat.le_of_ble_eq_true rfl)⟩ ⟨rfl, rfl⟩ ⟨(Nat.le_of_ble_eq_true rfl), (Nat.le_of_ble_eq_true rfl)⟩ ?_
      refine V_if_eq hC 330 kX6_succeeds_299 (by decide) (fun h299 => ?_) (fun h299 => ?_)
      · refine V_iconst hC (0) kX6_succeeds_330 (by decide) ?_
        refine V_iretz hC rfl kX6_succeeds_331 ?_ ?_
        · first | exact Or.inl rfl | exact Or.inr rfl
        · rw [et]
          first
          | (have hq := h291
             have hn : ¬ cS7 (sg (mo + 1)) (sg (mo + 7)) := fun z => hq (z.1)
             refine ⟨cI ?_, ?_⟩
             · show 0 = b01 (cS7 (sg (mo + 1)) (sg (mo + 7)))
               exact (b01_f hn).symm
             · exact (upr_self _ _).symm)
          | (have hq := (b01e.mp h299)
             have hn : ¬ cS7 (sg (mo + 1)) (sg (mo + 7)) := fun z => hq (z.2.1)
             refine ⟨cI ?_, ?_⟩
             · show 0 = b01 (cS7 (sg (mo + 1)) (sg (mo + 7)))
               exact (b01_f hn).symm
             · exact (upr_self _ _).symm)
          | (have hq := h323
             have hn : ¬ cS7 (sg (mo + 1)) (sg (mo + 7)) := fun z => hq (z.2.2)
             refine ⟨cI ?_, ?_⟩
             · show 0 = b01 (cS7 (sg (mo + 1)) (sg (mo + 7)))
               exact (b01_f hn).symm
             · exact (upr_self _ _).symm)
          | (have hp : cS7 (sg (mo + 1)) (sg (mo + 7)) := ⟨h291, b01n.mp h299, h323⟩
             refine ⟨cI ?_, ?_⟩
             · show 1 = b01 (cS7 (sg (mo + 1)) (sg (mo + 7)))
               exact (b01_t hp).symm
             · exact (upr_self _ _).symm)
      · refine V_aload_n hC kX6_succeeds_302 rfl ?_
        refine V_iload_n hC kX6_succeeds_303 rfl ?_
        refine V_iconst hC (0) kX6_succeeds_304 (by decide) ?_
        refine V_cV_fI hC (ct_ofBoat hWr _ 0 (vpB hI.hc5 (b01n.mp h299)) (vp_lit rfl)) mkX6_ofBoat lmX6_53 kX6_succeeds_305 (Nat.le_of_ble_eq_true rfl) rfl rfl rfl (Nat.le_of_ble_eq_true rfl) ⟨(Nat.le_of_ble_eq_true rfl), (Nat.le_of_ble_eq_true rfl)⟩ ⟨rfl, rfl⟩ ⟨(Nat.le_of_ble_eq_true rfl), (Nat.le_of_ble_eq_true rfl)⟩ ?_
        refine V_bipush hC (100) kX6_succeeds_308 (by decide) ?_
        refine V_aload_n hC kX6_succeeds_310 rfl ?_
        refine V_getR hC hWr 6 13 lfX6_29 kX6_succeeds_311 (Nat.le_of_ble_eq_true rfl) (Nat.le_of_ble_eq_true rfl) rfl ?_
        refine V_iconst hC (3) kX6_succeeds_314 (by decide) ?_
        refine V_iald hC 3 rfl kX6_succeeds_315 (vp_lit rfl) ?_
        refine V_imul hC kX6_succeeds_316 ?_
        refine V_aload_n hC kX6_succeeds_317 rfl ?_
        refine V_iconst hC (4) kX6_succeeds_318 (by decide) ?_
        refine V_cV_fI hC (ct_pair hWr 4 (by decide) rfl) mkX6_pair lmX6_215 kX6_succeeds_319 (Nat.le_of_ble_eq_true rfl) rfl rfl rfl (Nat.le_of_ble_eq_true rfl) ⟨(Nat.le_of_ble_eq_true rfl), (Nat.le_of_ble_eq_true rfl)⟩ ⟨rfl, rfl⟩ ⟨(Nat.le_of_ble_eq_true rfl), (Nat.le_of_ble_eq_true rfl)⟩ ?_
        refine V_iadd hC kX6_succeeds_322 ?_
        refine V_icmp_ne hC 330 kX6_succeeds_323 (by decide) (fun h323 => ?_) (fun h323 => ?_)
        · refine V_iconst hC (0) kX6_succeeds_330 (by decide) ?_
          refine V_iretz hC rfl kX6_succeeds_331 ?_ ?_
          · first | exact Or.inl rfl | exact Or.inr rfl
          · rw [et]
            first
            | (have hq := h291
               have hn : ¬ cS7 (sg (mo + 1)) (sg (mo + 7)) := fun z => hq (z.1)
               refine ⟨cI ?_, ?_⟩
               · show 0 = b01 (cS7 (sg (mo + 1)) (sg (mo + 7)))
                 exact (b01_f hn).symm
               · exact (upr_self _ _).symm)
            | (have hq := (b01e.mp h299)
               have hn : ¬ cS7 (sg (mo + 1)) (sg (mo + 7)) := fun z => hq (z.2.1)
               refine ⟨cI ?_, ?_⟩
               · show 0 = b01 (cS7 (sg (mo + 1)) (sg (mo + 7)))
                 exact (b01_f hn).symm
               · exact (upr_self _ _).symm)
            | (have hq := h323
               have hn : ¬ cS7 (sg (mo + 1)) (sg (mo + 7)) := fun z => hq (z.2.2)
               refine ⟨cI ?_, ?_⟩
               · show 0 = b01 (cS7 (sg (mo + 1)) (sg (mo + 7)))
                 exact (b01_f hn).symm
               · exact (upr_self _ _).symm)
            | (have hp : cS7 (sg (mo + 1)) (sg (mo + 7)) := ⟨h291, b01n.mp h299, h323⟩
               refine ⟨cI ?_, ?_⟩
               · show 1 = b01 (cS7 (sg (mo + 1)) (sg (mo + 7)))
                 exact (b01_t hp).symm
               · exact (upr_self _ _).symm)
        · refine V_iconst hC (1) kX6_succeeds_326 (by decide) ?_
          refine V_goto hC 331 kX6_succeeds_327 (by decide) ?_
          refine V_iretz hC rfl kX6_succeeds_331 ?_ ?_
          · first | exact Or.inl rfl | exact Or.inr rfl
          · rw [et]
            first
            | (have hq := h291
               have hn : ¬ cS7 (sg (mo + 1)) (sg (mo + 7)) := fun z => hq (z.1)
               refine ⟨cI ?_, ?_⟩
               · show 0 = b01 (cS7 (sg (mo + 1)) (sg (mo + 7)))
                 exact (b01_f hn).symm
               · exact (upr_self _ _).symm)
            | (have hq := (b01e.mp h299)
               have hn : ¬ cS7 (sg (mo + 1)) (sg (mo + 7)) := fun z => hq (z.2.1)
               refine ⟨cI ?_, ?_⟩
               · show 0 = b01 (cS7 (sg (mo + 1)) (sg (mo + 7)))
                 exact (b01_f hn).symm
               · exact (upr_self _ _).symm)
            | (have hq := h323
               have hn : ¬ cS7 (sg (mo + 1)) (sg (mo + 7)) := fun z => hq (z.2.2)
               refine ⟨cI ?_, ?_⟩
               · show 0 = b01 (cS7 (sg (mo + 1)) (sg (mo + 7)))
                 exact (b01_f hn).symm
               · exact (upr_self _ _).symm)
            | (have hp : cS7 (sg (mo + 1)) (sg (mo + 7)) := ⟨h291, b01n.mp h299, h323⟩
               refine ⟨cI ?_, ?_⟩
               · show 1 = b01 (cS7 (sg (mo + 1)) (sg (mo + 7)))
                 exact (b01_t hp).symm
               · exact (upr_self _ _).symm)
  · subst hDn
    have et : tn (sg (mo + 7) 0) = 8 := by rw [eD]; rfl
    refine V_tabIn hC (319) 332 kX6_succeeds_13 (by rw [eD]; decide) (by rw [eD]; decide) (by rw [eD]; rfl) (by decide) ?_
    refine V_aload_n hC kX6_succeeds_332 rfl ?_
    refine V_iconst hC (2) kX6_succeeds_333 (by decide) ?_
    refine V_cV_fI hC (ct_pair hWr 2 (by decide) rfl) mkX6_pair lmX6_215 kX6_succeeds_334 (Nat.le_of_ble_eq_true rfl) rfl rfl rfl (Nat.le_of_ble_eq_true rfl) ⟨(Nat.le_of_ble_eq_true rfl), (Nat.le_of_ble_eq_true rfl)⟩ ⟨rfl, rfl⟩ ⟨(Nat.le_of_ble_eq_true rfl), (Nat.le_of_ble_eq_true rfl)⟩ ?_
    refine V_if_ne hC 357 kX6_succeeds_337 (by decide) (fun h337 => ?_) (fun h337 => ?_)
    · refine V_iconst hC (0) kX6_succeeds_357 (by decide) ?_
      refine V_iretz hC rfl kX6_succeeds_358 ?_ ?_
      · first | exact Or.inl rfl | exact Or.inr rfl
      · rw [et]
        first
        | (have hq := h337
           have hn : ¬ cS8 (sg (mo + 1)) (sg (mo + 7)) := fun z => hq (z.1)
           refine ⟨cI ?_, ?_⟩
           · show 0 = b01 (cS8 (sg (mo + 1)) (sg (mo + 7)))
             exact (b01_f hn).symm
           · exact (upr_self _ _).symm)
        | (have hq := (Int32.not_le.mpr h350)
           have hn : ¬ cS8 (sg (mo + 1)) (sg (mo + 7)) := fun z => hq (z.2)
           refine ⟨cI ?_, ?_⟩
           · show 0 = b01 (cS8 (sg (mo + 1)) (sg (mo + 7)))
             exact (b01_f hn).symm
           · exact (upr_self _ _).symm)
        | (have hp : cS8 (sg (mo + 1)) (sg (mo + 7)) := ⟨h337, Int32.not_lt.mp h350⟩
           refine ⟨cI ?_, ?_⟩
           · show 1 = b01 (cS8 (sg (mo + 1)) (sg (mo + 7)))
             exact (b01_t hp).symm
           · exact (upr_self _ _).symm)
    · refine V_aload_n hC kX6_succeeds_340 rfl ?_
      refine V_iload_n hC kX6_succeeds_341 rfl ?_
      refine V_cV_fI hC (ct_tellsAbout hWr _ (by rw [eD1]; exact ⟨nI_pos' (by omega), nI_le (a := D1) (b := 9) (by omega) (by decide)⟩) hI) mkX6_tellsAbout lmX6_188 kX6_succeeds_342 (Nat.le_of_ble_eq_true rfl) rfl rfl rfl (Nat.le_of_ble_eq_true rfl) ⟨(Nat.le_of_ble_eq_true rfl), (Nat.le_of_ble_eq_true rfl)⟩ ⟨rfl, rfl⟩ ⟨(Nat.le_of_ble_eq_true rfl), (Nat.le_of_ble_eq_true rfl)⟩ ?_
      refine V_aload_n hC kX6_succeeds_345 rfl ?_
      refine V_iconst hC (4) kX6_succeeds_346 (by decide) ?_
      refine V_cV_fI hC (ct_pair hWr 4 (by decide) rfl) mkX6_pair lmX6_215 kX6_succeeds_347 (Nat.le_of_ble_eq_true rfl) rfl rfl rfl (Nat.le_of_ble_eq_true rfl) ⟨(Nat.le_of_ble_eq_true rfl), (Nat.le_of_ble_eq_true rfl)⟩ ⟨rfl, rfl⟩ ⟨(Nat.le_of_ble_eq_true rfl), (Nat.le_of_ble_eq_true rfl)⟩ ?_
      refine V_icmp_gt hC 357 kX6_succeeds_350 (by decide) (fun h350 => ?_) (fun h350 => ?_)
      · refine V_iconst hC (0) kX6_succeeds_357 (by decide) ?_
        refine V_iretz hC rfl kX6_succeeds_358 ?_ ?_
        · first | exact Or.inl rfl | exact Or.inr rfl
        · rw [et]
          first
          | (have hq := h337
             have hn : ¬ cS8 (sg (mo + 1)) (sg (mo + 7)) := fun z => hq (z.1)
             refine ⟨cI ?_, ?_⟩
             · show 0 = b01 (cS8 (sg (mo + 1)) (sg (mo + 7)))
               exact (b01_f hn).symm
             · exact (upr_self _ _).symm)
          | (have hq := (Int32.not_le.mpr h350)
             have hn : ¬ cS8 (sg (mo + 1)) (sg (mo + 7)) := fun z => hq (z.2)
             refine ⟨cI ?_, ?_⟩
             · show 0 = b01 (cS8 (sg (mo + 1)) (sg (mo + 7)))
               exact (b01_f hn).symm
             · exact (upr_self _ _).symm)
          | (have hp : cS8 (sg (mo + 1)) (sg (mo + 7)) := ⟨h337, Int32.not_lt.mp h350⟩
             refine ⟨cI ?_, ?_⟩
             · show 1 = b01 (cS8 (sg (mo + 1)) (sg (mo + 7)))
               exact (b01_t hp).symm
             · exact (upr_self _ _).symm)
      · refine V_iconst hC (1) kX6_succeeds_353 (by decide) ?_
        refine V_goto hC 358 kX6_succeeds_354 (by decide) ?_
        refine V_iretz hC rfl kX6_succeeds_358 ?_ ?_
        · first | exact Or.inl rfl | exact Or.inr rfl
        · rw [et]
          first
          | (have hq := h337
             have hn : ¬ cS8 (sg (mo + 1)) (sg (mo + 7)) := fun z => hq (z.1)
             refine ⟨cI ?_, ?_⟩
             · show 0 = b01 (cS8 (sg (mo + 1)) (sg (mo + 7)))
               exact (b01_f hn).symm
             · exact (upr_self _ _).symm)
          | (have hq := (Int32.not_le.mpr h350)
             have hn : ¬ cS8 (sg (mo + 1)) (sg (mo + 7)) := fun z => hq (z.2)
             refine ⟨cI ?_, ?_⟩
             · show 0 = b01 (cS8 (sg (mo + 1)) (sg (mo + 7)))
               exact (b01_f hn).symm
             · exact (upr_self _ _).symm)
          | (have hp : cS8 (sg (mo + 1)) (sg (mo + 7)) := ⟨h337, Int32.not_lt.mp h350⟩
             refine ⟨cI ?_, ?_⟩
             · show 1 = b01 (cS8 (sg (mo + 1)) (sg (mo + 7)))
               exact (b01_t hp).symm
             · exact (upr_self _ _).symm)
  · subst hDn
    have et : tn (sg (mo + 7) 0) = 9 := by rw [eD]; rfl
    refine V_tabIn hC (346) 359 kX6_succeeds_13 (by rw [eD]; decide) (by rw [eD]; decide) (by rw [eD]; rfl) (by decide) ?_
    refine V_aload_n hC kX6_succeeds_359 rfl ?_
    refine V_iconst hC (2) kX6_succeeds_360 (by decide) ?_
    refine V_cV_fI hC (ct_pair hWr 2 (by decide) rfl) mkX6_pair lmX6_215 kX6_succeeds_361 (Nat.le_of_ble_eq_true rfl) rfl rfl rfl (Nat.le_of_ble_eq_true rfl) ⟨(Nat.le_of_ble_eq_true rfl), (Nat.le_of_ble_eq_true rfl)⟩ ⟨rfl, rfl⟩ ⟨(Nat.le_of_ble_eq_true rfl), (Nat.le_of_ble_eq_true rfl)⟩ ?_
    refine V_if_ne hC 402 kX6_succeeds_364 (by decide) (fun h364 => ?_) (fun h364 => ?_)
    · refine V_iconst hC (0) kX6_succeeds_402 (by decide) ?_
      refine V_iretz hC rfl kX6_succeeds_403 ?_ ?_
      · first | exact Or.inl rfl | exact Or.inr rfl
      · rw [et]
        first
        | (have hq := h364
           have hn : ¬ cS9 (sg (mo + 1)) (sg (mo + 7)) := fun z => hq (z.1)
           refine ⟨cI ?_, ?_⟩
           · show 0 = b01 (cS9 (sg (mo + 1)) (sg (mo + 7)))
             exact (b01_f hn).symm
           · exact (upr_self _ _).symm)
        | (have hq := h373
           have hn : ¬ cS9 (sg (mo + 1)) (sg (mo + 7)) := fun z => hq (z.2.1)
           refine ⟨cI ?_, ?_⟩
           · show 0 = b01 (cS9 (sg (mo + 1)) (sg (mo + 7)))
             exact (b01_f hn).symm
           · exact (upr_self _ _).symm)
        | (have hq := (b01e.mp h381)
           have hn : ¬ cS9 (sg (mo + 1)) (sg (mo + 7)) := fun z => hq (z.2.2.1)
           refine ⟨cI ?_, ?_⟩
           · show 0 = b01 (cS9 (sg (mo + 1)) (sg (mo + 7)))
             exact (b01_f hn).symm
           · exact (upr_self _ _).symm)
        | (have hq := (Int32.not_le.mpr h395)
           have hn : ¬ cS9 (sg (mo + 1)) (sg (mo + 7)) := fun z => hq (z.2.2.2)
           refine ⟨cI ?_, ?_⟩
           · show 0 = b01 (cS9 (sg (mo + 1)) (sg (mo + 7)))
             exact (b01_f hn).symm
           · exact (upr_self _ _).symm)
        | (have hp : cS9 (sg (mo + 1)) (sg (mo + 7)) := ⟨h364, h373, b01n.mp h381, Int32.not_lt.mp h395⟩
           refine ⟨cI ?_, ?_⟩
           · show 1 = b01 (cS9 (sg (mo + 1)) (sg (mo + 7)))
             exact (b01_t hp).symm
           · exact (upr_self _ _).symm)
    · refine V_aload_n hC kX6_succeeds_367 rfl ?_
      refine V_getR hC hWr 6 13 lfX6_29 kX6_succeeds_368 (Nat.le_of_ble_eq_true rfl) (Nat.le_of_ble_eq_true rfl) rfl ?_
      refine V_iconst hC (4) kX6_succeeds_371 (by decide) ?_
      refine V_iald hC 4 rfl kX6_succeeds_372 (vp_lit rfl) ?_
      refine V_if_ne hC 402 kX6_succeeds_373 (by decide) (fun h373 => ?_) (fun h373 => ?_)
      · refine V_iconst hC (0) kX6_succeeds_402 (by decide) ?_
        refine V_iretz hC rfl kX6_succeeds_403 ?_ ?_
        · first | exact Or.inl rfl | exact Or.inr rfl
        · rw [et]
          first
          | (have hq := h364
             have hn : ¬ cS9 (sg (mo + 1)) (sg (mo + 7)) := fun z => hq (z.1)
             refine ⟨cI ?_, ?_⟩
             · show 0 = b01 (cS9 (sg (mo + 1)) (sg (mo + 7)))
               exact (b01_f hn).symm
             · exact (upr_self _ _).symm)
          | (have hq := h373
             have hn : ¬ cS9 (sg (mo + 1)) (sg (mo + 7)) := fun z => hq (z.2.1)
             refine ⟨cI ?_, ?_⟩
             · show 0 = b01 (cS9 (sg (mo + 1)) (sg (mo + 7)))
               exact (b01_f hn).symm
             · exact (upr_self _ _).symm)
          | (have hq := (b01e.mp h381)
             have hn : ¬ cS9 (sg (mo + 1)) (sg (mo + 7)) := fun z => hq (z.2.2.1)
             refine ⟨cI ?_, ?_⟩
             · show 0 = b01 (cS9 (sg (mo + 1)) (sg (mo + 7)))
               exact (b01_f hn).symm
             · exact (upr_self _ _).symm)
          | (have hq := (Int32.not_le.mpr h395)
             have hn : ¬ cS9 (sg (mo + 1)) (sg (mo + 7)) := fun z => hq (z.2.2.2)
             refine ⟨cI ?_, ?_⟩
             · show 0 = b01 (cS9 (sg (mo + 1)) (sg (mo + 7)))
               exact (b01_f hn).symm
             · exact (upr_self _ _).symm)
          | (have hp : cS9 (sg (mo + 1)) (sg (mo + 7)) := ⟨h364, h373, b01n.mp h381, Int32.not_lt.mp h395⟩
             refine ⟨cI ?_, ?_⟩
             · show 1 = b01 (cS9 (sg (mo + 1)) (sg (mo + 7)))
               exact (b01_t hp).symm
             · exact (upr_self _ _).symm)
      · refine V_aload_n hC kX6_succeeds_376 rfl ?_
        refine V_iload_n hC kX6_succeeds_377 rfl ?_
        refine V_cV_fI hC (ct_isLight hWr _) mkX6_isLight lmX6_114 kX6_succeeds_378 (Nat.le_of_ble_eq_true rfl) rfl rfl rfl (Nat.le_of_ble_eq_true rfl) ⟨(Nat.le_of_ble_eq_true rfl), (Nat.le_of_ble_eq_true rfl)⟩ ⟨rfl, rfl⟩ ⟨(Nat.le_of_ble_eq_true rfl), (Nat.le_of_ble_eq_true rfl)⟩ ?_
        refine V_if_eq hC 402 kX6_succeeds_381 (by decide) (fun h381 => ?_) (fun h381 => ?_)
        · refine V_iconst hC (0) kX6_succeeds_402 (by decide) ?_
          refine V_iretz hC rfl kX6_succeeds_403 ?_ ?_
          · first | exact Or.inl rfl | exact Or.inr rfl
          · rw [et]
            first
            | (have hq := h364
               have hn : ¬ cS9 (sg (mo + 1)) (sg (mo + 7)) := fun z => hq (z.1)
               refine ⟨cI ?_, ?_⟩
               · show 0 = b01 (cS9 (sg (mo + 1)) (sg (mo + 7)))
                 exact (b01_f hn).symm
               · exact (upr_self _ _).symm)
            | (have hq := h373
               have hn : ¬ cS9 (sg (mo + 1)) (sg (mo + 7)) := fun z => hq (z.2.1)
               refine ⟨cI ?_, ?_⟩
               · show 0 = b01 (cS9 (sg (mo + 1)) (sg (mo + 7)))
                 exact (b01_f hn).symm
               · exact (upr_self _ _).symm)
            | (have hq := (b01e.mp h381)
               have hn : ¬ cS9 (sg (mo + 1)) (sg (mo + 7)) := fun z => hq (z.2.2.1)
               refine ⟨cI ?_, ?_⟩
               · show 0 = b01 (cS9 (sg (mo + 1)) (sg (mo + 7)))
                 exact (b01_f hn).symm
               · exact (upr_self _ _).symm)
            | (have hq := (Int32.not_le.mpr h395)
               have hn : ¬ cS9 (sg (mo + 1)) (sg (mo + 7)) := fun z => hq (z.2.2.2)
               refine ⟨cI ?_, ?_⟩
               · show 0 = b01 (cS9 (sg (mo + 1)) (sg (mo + 7)))
                 exact (b01_f hn).symm
               · exact (upr_self _ _).symm)
            | (have hp : cS9 (sg (mo + 1)) (sg (mo + 7)) := ⟨h364, h373, b01n.mp h381, Int32.not_lt.mp h395⟩
               refine ⟨cI ?_, ?_⟩
               · show 1 = b01 (cS9 (sg (mo + 1)) (sg (mo + 7)))
                 exact (b01_t hp).symm
               · exact (upr_self _ _).symm)
        · refine V_aload_n hC kX6_succeeds_384 rfl ?_
          refine V_iload_n hC kX6_succeeds_385 rfl ?_
          refine V_cV_fI hC (ct_serves hWr _ hI.hc5) mkX6_serves lmX6_71 kX6_succeeds_386 (Nat.le_of_ble_eq_true rfl) rfl rfl rfl (Nat.le_of_ble_eq_true rfl) ⟨(Nat.le_of_ble_eq_true rfl), (Nat.le_of_ble_eq_true rfl)⟩ ⟨rfl, rfl⟩ ⟨(Nat.le_of_ble_eq_true rfl), (Nat.le_of_ble_eq_true rfl)⟩ ?_
          refine V_aload_n hC kX6_succeeds_389 rfl ?_
          refine V_getR hC hWr 6 13 lfX6_29 kX6_succeeds_390 (Nat.le_of_ble_eq_true rfl) (Nat.le_of_ble_eq_true rfl) rfl ?_
          refine V_iconst hC (5) kX6_succeeds_393 (by decide) ?_
          refine V_iald hC 5 rfl kX6_succeeds_394 (vp_lit rfl) ?_
          refine V_icmp_lt hC 402 kX6_succeeds_395 (by decide) (fun h395 => ?_) (fun h395 => ?_)
          · refine V_iconst hC (0) kX6_succeeds_402 (by decide) ?_
            refine V_iretz hC rfl kX6_succeeds_403 ?_ ?_
            · first | exact Or.inl rfl | exact Or.inr rfl
            · rw [et]
              first
              | (have hq := h364
                 have hn : ¬ cS9 (sg (mo + 1)) (sg (mo + 7)) := fun z => hq (z.1)
                 refine ⟨cI ?_, ?_⟩
                 · show 0 = b01 (cS9 (sg (mo + 1)) (sg (mo + 7)))
                   exact (b01_f hn).symm
                 · exact (upr_self _ _).symm)
              | (have hq := h373
                 have hn : ¬ cS9 (sg (mo + 1)) (sg (mo + 7)) := fun z => hq (z.2.1)
                 refine ⟨cI ?_, ?_⟩
                 · show 0 = b01 (cS9 (sg (mo + 1)) (sg (mo + 7)))
                   exact (b01_f hn).symm
                 · exact (upr_self _ _).symm)
              | (have hq := (b01e.mp h381)
                 have hn : ¬ cS9 (sg (mo + 1)) (sg (mo + 7)) := fun z => hq (z.2.2.1)
                 refine ⟨cI ?_, ?_⟩
                 · show 0 = b01 (cS9 (sg (mo + 1)) (sg (mo + 7)))
                   exact (b01_f hn).symm
                 · exact (upr_self _ _).symm)
              | (have hq := (Int32.not_le.mpr h395)
                 have hn : ¬ cS9 (sg (mo + 1)) (sg (mo + 7)) := fun z => hq (z.2.2.2)
                 refine ⟨cI ?_, ?_⟩
                 · show 0 = b01 (cS9 (sg (mo + 1)) (sg (mo + 7)))
                   exact (b01_f hn).symm
                 · exact (upr_self _ _).symm)
              | (have hp : cS9 (sg (mo + 1)) (sg (mo + 7)) := ⟨h364, h373, b01n.mp h381, Int32.not_lt.mp h395⟩
                 refine ⟨cI ?_, ?_⟩
                 · show 1 = b01 (cS9 (sg (mo + 1)) (sg (mo + 7)))
                   exact (b01_t hp).symm
                 · exact (upr_self _ _).symm)
          · refine V_iconst hC (1) kX6_succeeds_398 (by decide) ?_
            refine V_goto hC 403 kX6_succeeds_399 (by decide) ?_
            refine V_iretz hC rfl kX6_succeeds_403 ?_ ?_
            · first | exact Or.inl rfl | exact Or.inr rfl
            · rw [et]
              first
              | (have hq := h364
                 have hn : ¬ cS9 (sg (mo + 1)) (sg (mo + 7)) := fun z => hq (z.1)
                 refine ⟨cI ?_, ?_⟩
                 · show 0 = b01 (cS9 (sg (mo + 1)) (sg (mo + 7)))
                   exact (b01_f hn).symm
                 · exact (upr_self _ _).symm)
              | (have hq := h373
                 have hn : ¬ cS9 (sg (mo + 1)) (sg (mo + 7)) := fun z => hq (z.2.1)
                 refine ⟨cI ?_, ?_⟩
                 · show 0 = b01 (cS9 (sg (mo + 1)) (sg (mo + 7)))
                   exact (b01_f hn).symm
                 · exact (upr_self _ _).symm)
              | (have hq := (b01e.mp h381)
                 have hn : ¬ cS9 (sg (mo + 1)) (sg (mo + 7)) := fun z => hq (z.2.2.1)
                 refine ⟨cI ?_, ?_⟩
                 · show 0 = b01 (cS9 (sg (mo + 1)) (sg (mo + 7)))
                   exact (b01_f hn).symm
                 · exact (upr_self _ _).symm)
              | (have hq := (Int32.not_le.mpr h395)
                 have hn : ¬ cS9 (sg (mo + 1)) (sg (mo + 7)) := fun z => hq (z.2.2.2)
                 refine ⟨cI ?_, ?_⟩
                 · show 0 = b01 (cS9 (sg (mo + 1)) (sg (mo + 7)))
                   exact (b01_f hn).symm
                 · exact (upr_self _ _).symm)
              | (have hp : cS9 (sg (mo + 1)) (sg (mo + 7)) := ⟨h364, h373, b01n.mp h381, Int32.not_lt.mp h395⟩
                 refine ⟨cI ?_, ?_⟩
                 · show 1 = b01 (cS9 (sg (mo + 1)) (sg (mo + 7)))
                   exact (b01_t hp).symm
                 · exact (upr_self _ _).symm)
theorem mn_x {n : Int32} (h : ¬ n ≤ nI (min (tn n) 3)) : 3 ≤ nI (min (tn n) 3) := by
  by_cases h3 : tn n ≤ 3
  · refine absurd ?_ h
    rw [Nat.min_eq_left h3]
    exact Int32.le_iff_toInt_le.mpr (by rw [nI_toInt (by omega)]; have e : tn n = n.toInt.toNat := rfl; omega)
  · rw [Nat.min_eq_right (by omega)]
    exact nI_le (a := 3) (b := 3) (by decide) (by decide)
theorem mn_b {n : Int32} {i : Nat} (h : i < min (tn n) 3) : ¬ n ≤ nI i ∧ ¬ 3 ≤ nI i := by
  have h1 : i < tn n := by omega
  have h2 : i < 3 := by omega
  refine ⟨fun z => ?_, nI_ge (b := 3) h2 (by decide)⟩
  have := Int32.le_iff_toInt_le.mp z
  rw [nI_toInt (by omega)] at this
  have e : tn n = n.toInt.toNat := rfl
  omega
theorem mn_e {n : Int32} (h : inn n 1 3) : min (tn n) 3 = tn n := by
  obtain ⟨N, hN, -, rfl, et⟩ := tn60 (m := 3) rfl h
  omega
theorem rsN_all (g old : Gs) (S n : Nat) : ∃ F, F_rsN g old S n = F ∧ (∀ k, k < F → ¬ F_rsR g old S n k = 0) ∧ (F = n ∨ (F < n ∧ F_rsR g old S n F = 0)) ∧ F ≤ n := by
  refine ⟨F_rsN g old S n, rfl, fun k hk => of_decide_eq_false (fa_first_no (F_rsp g old S n) n k hk), ?_, fa_first_le _ _⟩
  rcases first_dec (F_rsp g old S n) n with e | ⟨e1, e2⟩
  · exact Or.inl e
  · exact Or.inr ⟨e1, of_decide_eq_true e2⟩
theorem srow_s (old : Gs) (S n : Nat) : ∀ i, figN (grp S n i) (F_srow old S n i) 6 = F_srow old S n (i + 1)
  | 0 => rfl
  | i + 1 => figN_figN _ _ _
theorem srow_f (old : Gs) (S n i : Nat) : F_srow old S n (i + 1) = fgs old S n i := rfl
def P_rs (sg : Sg) (mo : Nat) (n : Int32) (x : Int64) (r : Int32) (g' : Sg) : Prop :=
  (cScript n x → ∃ S fr, x = lN S ∧ S < 10 ^ 18 ∧ r = R_runScript (sg (mo + 1)) (sg (mo + 7)) S (tn n) ∧ g' = ups (upr (G_aside sg mo) (mo + 7) fr) mo 0 0) ∧ (¬ cScript n x → r = 0 ∧ g' = ups sg mo 0 1)
def mtX6_runScript : Mt := (yX6_runScript, cX6_runScript, 8, (some .int), 10, 228, 0, 0)
theorem kX6_runScript_0 : Dk mtX6_runScript 0 (.aload_n 0) 1 1 := ⟨by decide +kernel, rfl⟩
theorem kX6_runScript_1 : Dk mtX6_runScript 1 (.iconst 0) 1 2 := ⟨by decide +kernel, rfl⟩
theorem kX6_runScript_2 : Dk mtX6_runScript 2 (.putfield 32) 3 5 := ⟨by decide +kernel, rfl⟩
theorem kX6_runScript_5 : Dk mtX6_runScript 5 (.lconst 1) 1 6 := ⟨by decide +kernel, rfl⟩
theorem kX6_runScript_6 : Dk mtX6_runScript 6 (.lstore 4) 2 8 := ⟨by decide +kernel, rfl⟩
theorem kX6_runScript_8 : Dk mtX6_runScript 8 (.iconst 0) 1 9 := ⟨by decide +kernel, rfl⟩
theorem kX6_runScript_9 : Dk mtX6_runScript 9 (.istore 6) 2 11 := ⟨by decide +kernel, rfl⟩
theorem kX6_runScript_11 : Dk mtX6_runScript 11 (.iload 6) 2 13 := ⟨by decide +kernel, rfl⟩
theorem kX6_runScript_13 : Dk mtX6_runScript 13 (.iload_n 1) 1 14 := ⟨by decide +kernel, rfl⟩
theorem kX6_runScript_14 : Dk mtX6_runScript 14 (.if_icmp .ge 23) 3 17 := ⟨by decide +kernel, rfl⟩
theorem kX6_runScript_17 : Dk mtX6_runScript 17 (.iload 6) 2 19 := ⟨by decide +kernel, rfl⟩
theorem kX6_runScript_19 : Dk mtX6_runScript 19 (.iconst 3) 1 20 := ⟨by decide +kernel, rfl⟩
theorem kX6_runScript_20 : Dk mtX6_runScript 20 (.if_icmp .ge 17) 3 23 := ⟨by decide +kernel, rfl⟩
theorem kX6_runScript_23 : Dk mtX6_runScript 23 (.lload 4) 2 25 := ⟨by decide +kernel, rfl⟩
theorem kX6_runScript_25 : Dk mtX6_runScript 25 (.ldc2_w 220) 3 28 := ⟨by decide +kernel, rfl⟩
theorem kX6_runScript_28 : Dk mtX6_runScript 28 (.lmul) 1 29 := ⟨by decide +kernel, rfl⟩
theorem kX6_runScript_29 : Dk mtX6_runScript 29 (.lstore 4) 2 31 := ⟨by decide +kernel, rfl⟩
theorem kX6_runScript_31 : Dk mtX6_runScript 31 (.iinc 6 1) 3 34 := ⟨by decide +kernel, rfl⟩
theorem kX6_runScript_34 : Dk mtX6_runScript 34 (.goto (-23)) 3 37 := ⟨by decide +kernel, rfl⟩
theorem kX6_runScript_37 : Dk mtX6_runScript 37 (.iload_n 1) 1 38 := ⟨by decide +kernel, rfl⟩
theorem kX6_runScript_38 : Dk mtX6_runScript 38 (.iconst 1) 1 39 := ⟨by decide +kernel, rfl⟩
theorem kX6_runScript_39 : Dk mtX6_runScript 39 (.iconst 3) 1 40 := ⟨by decide +kernel, rfl⟩
theorem kX6_runScript_40 : Dk mtX6_runScript 40 (.invokestatic 39) 3 43 := ⟨by decide +kernel, rfl⟩
theorem kX6_runScript_43 : Dk mtX6_runScript 43 (.ifCond .eq 16) 3 46 := ⟨by decide +kernel, rfl⟩
theorem kX6_runScript_46 : Dk mtX6_runScript 46 (.lload_n 2) 1 47 := ⟨by decide +kernel, rfl⟩
theorem kX6_runScript_47 : Dk mtX6_runScript 47 (.lconst 0) 1 48 := ⟨by decide +kernel, rfl⟩
theorem kX6_runScript_48 : Dk mtX6_runScript 48 (.lcmp) 1 49 := ⟨by decide +kernel, rfl⟩
theorem kX6_runScript_49 : Dk mtX6_runScript 49 (.ifCond .lt 10) 3 52 := ⟨by decide +kernel, rfl⟩
theorem kX6_runScript_52 : Dk mtX6_runScript 52 (.lload_n 2) 1 53 := ⟨by decide +kernel, rfl⟩
theorem kX6_runScript_53 : Dk mtX6_runScript 53 (.lload 4) 2 55 := ⟨by decide +kernel, rfl⟩
theorem kX6_runScript_55 : Dk mtX6_runScript 55 (.lcmp) 1 56 := ⟨by decide +kernel, rfl⟩
theorem kX6_runScript_56 : Dk mtX6_runScript 56 (.ifCond .lt 9) 3 59 := ⟨by decide +kernel, rfl⟩
theorem kX6_runScript_59 : Dk mtX6_runScript 59 (.aload_n 0) 1 60 := ⟨by decide +kernel, rfl⟩
theorem kX6_runScript_60 : Dk mtX6_runScript 60 (.iconst 1) 1 61 := ⟨by decide +kernel, rfl⟩
theorem kX6_runScript_61 : Dk mtX6_runScript 61 (.invokevirtual 127) 3 64 := ⟨by decide +kernel, rfl⟩
theorem kX6_runScript_64 : Dk mtX6_runScript 64 (.ireturn) 1 65 := ⟨by decide +kernel, rfl⟩
theorem kX6_runScript_65 : Dk mtX6_runScript 65 (.aload_n 0) 1 66 := ⟨by decide +kernel, rfl⟩
theorem kX6_runScript_66 : Dk mtX6_runScript 66 (.invokevirtual 206) 3 69 := ⟨by decide +kernel, rfl⟩
theorem kX6_runScript_69 : Dk mtX6_runScript 69 (.iconst (-1)) 1 70 := ⟨by decide +kernel, rfl⟩
theorem kX6_runScript_70 : Dk mtX6_runScript 70 (.istore 6) 2 72 := ⟨by decide +kernel, rfl⟩
theorem kX6_runScript_72 : Dk mtX6_runScript 72 (.iconst 0) 1 73 := ⟨by decide +kernel, rfl⟩
theorem kX6_runScript_73 : Dk mtX6_runScript 73 (.istore 7) 2 75 := ⟨by decide +kernel, rfl⟩
theorem kX6_runScript_75 : Dk mtX6_runScript 75 (.iload 7) 2 77 := ⟨by decide +kernel, rfl⟩
theorem kX6_runScript_77 : Dk mtX6_runScript 77 (.iload_n 1) 1 78 := ⟨by decide +kernel, rfl⟩
theorem kX6_runScript_78 : Dk mtX6_runScript 78 (.if_icmp .ge 50) 3 81 := ⟨by decide +kernel, rfl⟩
theorem kX6_runScript_81 : Dk mtX6_runScript 81 (.iload 6) 2 83 := ⟨by decide +kernel, rfl⟩
theorem kX6_runScript_83 : Dk mtX6_runScript 83 (.iconst (-1)) 1 84 := ⟨by decide +kernel, rfl⟩
theorem kX6_runScript_84 : Dk mtX6_runScript 84 (.if_icmp .ne 44) 3 87 := ⟨by decide +kernel, rfl⟩
theorem kX6_runScript_87 : Dk mtX6_runScript 87 (.lload 4) 2 89 := ⟨by decide +kernel, rfl⟩
theorem kX6_runScript_89 : Dk mtX6_runScript 89 (.ldc2_w 220) 3 92 := ⟨by decide +kernel, rfl⟩
theorem kX6_runScript_92 : Dk mtX6_runScript 92 (.ldiv) 1 93 := ⟨by decide +kernel, rfl⟩
theorem kX6_runScript_93 : Dk mtX6_runScript 93 (.lstore 4) 2 95 := ⟨by decide +kernel, rfl⟩
theorem kX6_runScript_95 : Dk mtX6_runScript 95 (.aload_n 0) 1 96 := ⟨by decide +kernel, rfl⟩
theorem kX6_runScript_96 : Dk mtX6_runScript 96 (.lload_n 2) 1 97 := ⟨by decide +kernel, rfl⟩
theorem kX6_runScript_97 : Dk mtX6_runScript 97 (.lload 4) 2 99 := ⟨by decide +kernel, rfl⟩
theorem kX6_runScript_99 : Dk mtX6_runScript 99 (.ldiv) 1 100 := ⟨by decide +kernel, rfl⟩
theorem kX6_runScript_100 : Dk mtX6_runScript 100 (.ldc2_w 220) 3 103 := ⟨by decide +kernel, rfl⟩
theorem kX6_runScript_103 : Dk mtX6_runScript 103 (.lrem) 1 104 := ⟨by decide +kernel, rfl⟩
theorem kX6_runScript_104 : Dk mtX6_runScript 104 (.invokevirtual 222) 3 107 := ⟨by decide +kernel, rfl⟩
theorem kX6_runScript_107 : Dk mtX6_runScript 107 (.aload_n 0) 1 108 := ⟨by decide +kernel, rfl⟩
theorem kX6_runScript_108 : Dk mtX6_runScript 108 (.invokevirtual 226) 3 111 := ⟨by decide +kernel, rfl⟩
theorem kX6_runScript_111 : Dk mtX6_runScript 111 (.ifCond .eq 7) 3 114 := ⟨by decide +kernel, rfl⟩
theorem kX6_runScript_114 : Dk mtX6_runScript 114 (.iconst (-1)) 1 115 := ⟨by decide +kernel, rfl⟩
theorem kX6_runScript_115 : Dk mtX6_runScript 115 (.goto 5) 3 118 := ⟨by decide +kernel, rfl⟩
theorem kX6_runScript_118 : Dk mtX6_runScript 118 (.iload 7) 2 120 := ⟨by decide +kernel, rfl⟩
theorem kX6_runScript_120 : Dk mtX6_runScript 120 (.istore 6) 2 122 := ⟨by decide +kernel, rfl⟩
theorem kX6_runScript_122 : Dk mtX6_runScript 122 (.iinc 7 1) 3 125 := ⟨by decide +kernel, rfl⟩
theorem kX6_runScript_125 : Dk mtX6_runScript 125 (.goto (-50)) 3 128 := ⟨by decide +kernel, rfl⟩
theorem kX6_runScript_128 : Dk mtX6_runScript 128 (.aload_n 0) 1 129 := ⟨by decide +kernel, rfl⟩
theorem kX6_runScript_129 : Dk mtX6_runScript 129 (.invokevirtual 209) 3 132 := ⟨by decide +kernel, rfl⟩
theorem kX6_runScript_132 : Dk mtX6_runScript 132 (.iload 6) 2 134 := ⟨by decide +kernel, rfl⟩
theorem kX6_runScript_134 : Dk mtX6_runScript 134 (.ireturn) 1 135 := ⟨by decide +kernel, rfl⟩
theorem lcX6_220 : Cond.constantLong RX6 220 (1000000) ∈ lw_tbl := by decide +kernel
theorem lmX6_222 : LkM RX6 222 mtX6_laysFigures := Or.inl (by decide +kernel)
theorem mkX6_laysFigures : MkV mtX6_laysFigures 1 := ⟨List.mem_of_getElem? (i := 1366) (by decide +kernel), by decide +kernel, by decide +kernel, by decide +kernel, ⟨by decide +kernel, by decide +kernel, by decide +kernel⟩⟩
theorem lmX6_226 : LkM RX6 226 mtX6_succeeds := Or.inl (by decide +kernel)
theorem mkX6_succeeds : MkV mtX6_succeeds 0 := ⟨List.mem_of_getElem? (i := 1371) (by decide +kernel), by decide +kernel, by decide +kernel, by decide +kernel, ⟨by decide +kernel, by decide +kernel, by decide +kernel⟩⟩
set_option maxHeartbeats 4000000 in
set_option maxRecDepth 100000 in
theorem ct_runScript {l : Launch} {w : Wd} {sg : Sg} (hWr : Wr w) {mo : Nat} (n : Int32) (x : Int64) (hI : Inv (sg (mo + 1))) : M l mtX6_runScript w [vR (some (6, 0, mo)), vI n, vL x] sg (rI (P_rs sg mo n x)) := by
  refine M_of [some (vR (some (6, 0, mo))), some (vI n), some (vL x), none, none, none, none, none] rfl (Nat.le_of_ble_eq_true rfl) (by decide +kernel) ?_
  intro p_ e_ s_ m_ args_ below_ meth_ c_ hC hO
  refine V_aload_n hC kX6_runScript_0 rfl ?_
  refine V_iconst hC (0) kX6_runScript_1 (by decide) ?_
  refine V_putI hC 6 0 lfX6_32 kX6_runScript_2 (Nat.le_of_ble_eq_true rfl) (Nat.le_of_ble_eq_true rfl) rfl rfl ⟨rfl, rfl⟩ ?_
  refine V_nameS (fun sg0 e_sg0 => ?_)
  have hs1 : sg0 (mo + 1) = sg (mo + 1) := by rw [e_sg0]; exact upr_ne _ _ (by omega)
  have hs2 : sg0 (mo + 2) = sg (mo + 2) := by rw [e_sg0]; exact upr_ne _ _ (by omega)
  refine V_lconst hC 1 kX6_runScript_5 (by decide) ?_
  refine V_lstore hC [some _, some _, some _, none, some _, none, none, none] kX6_runScript_6 rfl (Nat.le_of_ble_eq_true rfl) ?_
  refine V_iconst hC (0) kX6_runScript_8 (by decide) ?_
  refine V_istore hC [some _, some _, some _, none, some _, none, some _, none] kX6_runScript_9 rfl (Nat.le_of_ble_eq_true rfl) ?_
  refine V_loop (min (tn n) 3) (fun i => [some (vR (some (6, 0, mo))), some (vI n), some (vL x), none, some (vL (lN (10 ^ (6 * i)))), none, some (vI (nI i)), none]) (fun i => sg0) (by rw [Nat.mul_zero, Nat.pow_zero]; rfl) rfl ?_ (fun i hi ihi => ?_)
  · refine V_joinS 37 (sg0) ?_ (fun j37 => ?_)
    · refine V_iload_n hC kX6_runScript_37 rfl ?_
      refine V_iconst hC (1) kX6_runScript_38 (by decide) ?_
      refine V_iconst hC (3) kX6_runScript_39 (by decide) ?_
      refine V_cS_fI hC (ct_in hWr _ _ _) mkX6_in lmX6_39 kX6_runScript_40 rfl rfl (Nat.le_of_ble_eq_true rfl) ⟨(Nat.le_of_ble_eq_true rfl), (Nat.le_of_ble_eq_true rfl)⟩ ⟨rfl, rfl⟩ ⟨(Nat.le_of_ble_eq_true rfl), (Nat.le_of_ble_eq_true rfl)⟩ ?_
      refine V_if_eq hC 59 kX6_runScript_43 (by decide) (fun h43 => ?_) (fun h43 => ?_)
      · refine V_aload_n hC kX6_runScript_59 rfl ?_
        refine V_iconst hC (1) kX6_runScript_60 (by decide) ?_
        refine V_cV_fI hC (ct_fails hWr 1) mkX6_fails lmX6_127 kX6_runScript_61 (Nat.le_of_ble_eq_true rfl) rfl rfl rfl (Nat.le_of_ble_eq_true rfl) ⟨(Nat.le_of_ble_eq_true rfl), (Nat.le_of_ble_eq_true rfl)⟩ ⟨rfl, rfl⟩ ⟨(Nat.le_of_ble_eq_true rfl), (Nat.le_of_ble_eq_true rfl)⟩ ?_
        refine V_ireti hC rfl kX6_runScript_64 ?_
        refine ⟨0, by with_reducible rfl, fun z => absurd z ?_, fun _ => ⟨rfl, by rw [e_sg0, ups_ups]⟩⟩
        first
        | exact fun z => (b01e.mp h43) z.1
        | exact fun z => z.2.1 ((lg_cmp_lt _ _).mp h49)
        | exact fun z => h56 ((lg_cmp_lt _ _).mpr (by rw [mn_e z.1]; exact z.2.2))
      · refine V_lload_n hC kX6_runScript_46 rfl ?_
        refine V_lconst hC 0 kX6_runScript_47 (by decide) ?_
        refine V_lcmp hC kX6_runScript_48 ?_
        refine V_if_lt hC 59 kX6_runScript_49 (by decide) (fun h49 => ?_) (fun h49 => ?_)
        · refine V_aload_n hC kX6_runScript_59 rfl ?_
          refine V_iconst hC (1) kX6_runScript_60 (by decide) ?_
          refine V_cV_fI hC (ct_fails hWr 1) mkX6_fails lmX6_127 kX6_runScript_61 (Nat.le_of_ble_eq_true rfl) rfl rfl rfl (Nat.le_of_ble_eq_true rfl) ⟨(Nat.le_of_ble_eq_true rfl), (Nat.le_of_ble_eq_true rfl)⟩ ⟨rfl, rfl⟩ ⟨(Nat.le_of_ble_eq_true rfl), (Nat.le_of_ble_eq_true rfl)⟩ ?_
          refine V_ireti hC rfl kX6_runScript_64 ?_
          refine ⟨0, by with_reducible rfl, fun z => absurd z ?_, fun _ => ⟨rfl, by rw [e_sg0, ups_ups]⟩⟩
          first
          | exact fun z => (b01e.mp h43) z.1
          | exact fun z => z.2.1 ((lg_cmp_lt _ _).mp h49)
          | exact fun z => h56 ((lg_cmp_lt _ _).mpr (by rw [mn_e z.1]; exact z.2.2))
        · refine V_lload_n hC kX6_runScript_52 rfl ?_
          refine V_lload hC kX6_runScript_53 rfl ?_
          refine V_lcmp hC kX6_runScript_55 ?_
          refine V_if_lt hC 65 kX6_runScript_56 (by decide) (fun h56 => ?_) (fun h56 => ?_)
          · have hp1 := b01n.mp h43
            have hx0 : ¬ x < 0 := fun z => h49 ((lg_cmp_lt _ _).mpr z)
            have hx1 := (lg_cmp_lt _ _).mp h56
            rw [mn_e hp1] at hx1 ⊢
            have hcS : cScript n x := ⟨hp1, hx0, hx1⟩
            obtain ⟨N, hN, hN1, en, etn⟩ := tn60 (m := 3) rfl hp1
            rw [etn] at hx1 ⊢
            obtain ⟨S, hS0, eS⟩ := pk_lOf hx0
            have hS : S < 10 ^ 18 := by
              have h18 := p18 hN
              rw [eS] at hx1
              have := (pk_lLT hS0 (by omega)).mp hx1
              omega
            subst eS
            subst en
            refine V_aload_n hC kX6_runScript_65 rfl ?_
            refine V_cV_fV hC (ct_putAside hWr) mkX6_putAside lmX6_206 kX6_runScript_66 (Nat.le_of_ble_eq_true rfl) rfl rfl rfl (Nat.le_of_ble_eq_true rfl) ⟨(Nat.le_of_ble_eq_true rfl), (Nat.le_of_ble_eq_true rfl)⟩ ⟨rfl, rfl⟩ ⟨(Nat.le_of_ble_eq_true rfl), (Nat.le_of_ble_eq_true rfl)⟩ ?_
            have ha1 : G_aside sg0 mo (mo + 1) = sg (mo + 1) := (aside_1 sg0 mo).trans hs1
            have ha7 : G_aside sg0 mo (mo + 7) = sg (mo + 7) := by
              unfold G_aside
              rw [upr_ne _ _ (by omega), e_sg0, ups_ne _ _ _ (by omega)]
            obtain ⟨Fm, hFm, hFno, hFy, hFle⟩ := rsN_all (sg (mo + 1)) (sg (mo + 7)) S N
            obtain ⟨Nl, hNl⟩ : ∃ Nl, Nl = if Fm < N then Fm + 1 else N := ⟨_, rfl⟩
            refine V_canon (G_aside sg0 mo) (by unfold G_aside; with_reducible rfl) ?_
            refine V_iconst hC (-1) kX6_runScript_69 (by decide) ?_
            refine V_istore hC [some _, some _, some _, none, some _, none, some _, none] kX6_runScript_70 rfl (Nat.le_of_ble_eq_true rfl) ?_
            refine V_iconst hC (0) kX6_runScript_72 (by decide) ?_
            refine V_istore hC [some _, some _, some _, none, some _, none, some _, some _] kX6_runScript_73 rfl (Nat.le_of_ble_eq_true rfl) ?_
            refine V_canon (upr (upr (G_aside sg0 mo) (mo + 7) (F_srow (sg (mo + 7)) S N 0)) (mo + 1) (F_rsG (sg (mo + 1)) (sg (mo + 7)) S N 0)) (by rw [F_srow, F_rsG, ← ha7, upr_self, ← ha1, upr_self]) ?_
            refine V_loop Nl (fun i => [some (vR (some (6, 0, mo))), some (vI (nI N)), some (vL (lN S)), none, some (vL (lN (10 ^ (6 * (N - i))))), none, some (vI (if Fm < i then nI Fm else -1)), some (vI (nI i))]) (fun i => upr (upr (G_aside sg0 mo) (mo + 7) (F_srow (sg (mo + 7)) S N i)) (mo + 1) (F_rsG (sg (mo + 1)) (sg (mo + 7)) S N i)) rfl rfl ?_ (fun i hi ihi => ?_)
            · rcases id hFy with hE | ⟨hlt, hz⟩
              · refine V_iload hC kX6_runScript_75 rfl ?_
                refine V_iload_n hC kX6_runScript_77 rfl ?_
                refine V_icmp_ge hC 128 kX6_runScript_78 (by decide) (fun h78 => ?_) (fun h78 => absurd h78 (not_not_intro (by rw [hNl, if_neg (by omega)]; exact Int32.le_refl _)))
                refine V_aload_n hC kX6_runScript_128 rfl ?_
                refine V_cV_fV hC (ct_takeBack hWr) mkX6_takeBack lmX6_209 kX6_runScript_129 (Nat.le_of_ble_eq_true rfl) rfl rfl rfl (Nat.le_of_ble_eq_true rfl) ⟨(Nat.le_of_ble_eq_true rfl), (Nat.le_of_ble_eq_true rfl)⟩ ⟨rfl, rfl⟩ ⟨(Nat.le_of_ble_eq_true rfl), (Nat.le_of_ble_eq_true rfl)⟩ ?_
                refine V_iload hC kX6_runScript_132 rfl ?_
                refine V_ireti hC rfl kX6_runScript_134 ?_
                refine ⟨_, by with_reducible rfl, fun _ => ⟨S, F_srow (sg (mo + 7)) S N Nl, rfl, hS, ?_, ?_⟩, fun z => absurd hcS z⟩
                · rw [etn, R_runScript, hFm, hNl]
                  rcases hFy with hE | ⟨hlt, hz⟩
                  · rw [if_neg (show ¬ Fm < N by omega), if_neg (by omega)]
                  · rw [if_pos hlt, if_pos (by omega), if_pos hlt]
                · simp only [upr_at, upr_upr]
                  rw [upr_ne _ _ (show mo + 2 ≠ mo + 1 by omega), upr_ne _ _ (show mo + 2 ≠ mo + 7 by omega)]
                  have hb : cpy (G_aside sg0 mo (mo + 2)) (F_rsG (sg (mo + 1)) (sg (mo + 7)) S N Nl) 140 = sg (mo + 1) := by
                    unfold G_aside
                    rw [upr_at, hs1]
                    exact back_eq (fun z hz => (Inv_rsG hI _ S N Nl).2 z hz)
                  rw [hb, upr_same (by rw [upr_ne _ _ (by omega), ha1])]
                  unfold G_aside
                  rw [hs1, hs2, e_sg0, ups_upr _ _ _ _ (by omega), ups_upr _ _ _ _ (by omega)]
              · refine V_iload hC kX6_runScript_75 rfl ?_
                refine V_iload_n hC kX6_runScript_77 rfl ?_
                refine V_icmp_ge hC 128 kX6_runScript_78 (by decide) (fun h78 => ?_) (fun h78 => ?_)
                · refine V_aload_n hC kX6_runScript_128 rfl ?_
                  refine V_cV_fV hC (ct_takeBack hWr) mkX6_takeBack lmX6_209 kX6_runScript_129 (Nat.le_of_ble_eq_true rfl) rfl rfl rfl (Nat.le_of_ble_eq_true rfl) ⟨(Nat.le_of_ble_eq_true rfl), (Nat.le_of_ble_eq_true rfl)⟩ ⟨rfl, rfl⟩ ⟨(Nat.le_of_ble_eq_true rfl), (Nat.le_of_ble_eq_true rfl)⟩ ?_
                  refine V_iload hC kX6_runScript_132 rfl ?_
                  refine V_ireti hC rfl kX6_runScript_134 ?_
                  refine ⟨_, by with_reducible rfl, fun _ => ⟨S, F_srow (sg (mo + 7)) S N Nl, rfl, hS, ?_, ?_⟩, fun z => absurd hcS z⟩
                  · rw [etn, R_runScript, hFm, hNl]
                    rcases hFy with hE | ⟨hlt, hz⟩
                    · rw [if_neg (show ¬ Fm < N by omega), if_neg (by omega)]
                    · rw [if_pos hlt, if_pos (by omega), if_pos hlt]
                  · simp only [upr_at, upr_upr]
                    rw [upr_ne _ _ (show mo + 2 ≠ mo + 1 by omega), upr_ne _ _ (show mo + 2 ≠ mo + 7 by omega)]
                    have hb : cpy (G_aside sg0 mo (mo + 2)) (F_rsG (sg (mo + 1)) (sg (mo + 7)) S N Nl) 140 = sg (mo + 1) := by
                      unfold G_aside
                      rw [upr_at, hs1]
                      exact back_eq (fun z hz => (Inv_rsG hI _ S N Nl).2 z hz)
                    rw [hb, upr_same (by rw [upr_ne _ _ (by omega), ha1])]
                    unfold G_aside
                    rw [hs1, hs2, e_sg0, ups_upr _ _ _ _ (by omega), ups_upr _ _ _ _ (by omega)]
                · refine V_iload hC kX6_runScript_81 rfl ?_
                  refine V_iconst hC (-1) kX6_runScript_83 (by decide) ?_
                  refine V_icmp_ne hC 128 kX6_runScript_84 (by decide) (fun h84 => ?_) (fun h84 => absurd h84 (by rw [hNl, if_pos hlt, if_pos (by omega)]; exact fun z => absurd (congrArg Int32.toInt z) (by rw [nI_toInt (by omega)]; show ¬ (Fm : Int) = -1; omega)))
                  refine V_aload_n hC kX6_runScript_128 rfl ?_
                  refine V_cV_fV hC (ct_takeBack hWr) mkX6_takeBack lmX6_209 kX6_runScript_129 (Nat.le_of_ble_eq_true rfl) rfl rfl rfl (Nat.le_of_ble_eq_true rfl) ⟨(Nat.le_of_ble_eq_true rfl), (Nat.le_of_ble_eq_true rfl)⟩ ⟨rfl, rfl⟩ ⟨(Nat.le_of_ble_eq_true rfl), (Nat.le_of_ble_eq_true rfl)⟩ ?_
                  refine V_iload hC kX6_runScript_132 rfl ?_
                  refine V_ireti hC rfl kX6_runScript_134 ?_
                  refine ⟨_, by with_reducible rfl, fun _ => ⟨S, F_srow (sg (mo + 7)) S N Nl, rfl, hS, ?_, ?_⟩, fun z => absurd hcS z⟩
                  · rw [etn, R_runScript, hFm, hNl]
                    rcases hFy with hE | ⟨hlt, hz⟩
                    · rw [if_neg (show ¬ Fm < N by omega), if_neg (by omega)]
                    · rw [if_pos hlt, if_pos (by omega), if_pos hlt]
                  · simp only [upr_at, upr_upr]
                    rw [upr_ne _ _ (show mo + 2 ≠ mo + 1 by omega), upr_ne _ _ (show mo + 2 ≠ mo + 7 by omega)]
                    have hb : cpy (G_aside sg0 mo (mo + 2)) (F_rsG (sg (mo + 1)) (sg (mo + 7)) S N Nl) 140 = sg (mo + 1) := by
                      unfold G_aside
                      rw [upr_at, hs1]
                      exact back_eq (fun z hz => (Inv_rsG hI _ S N Nl).2 z hz)
                    rw [hb, upr_same (by rw [upr_ne _ _ (by omega), ha1])]
                    unfold G_aside
                    rw [hs1, hs2, e_sg0, ups_upr _ _ _ _ (by omega), ups_upr _ _ _ _ (by omega)]
            · have hiN : i < N := by rw [hNl] at hi; split at hi <;> omega
              have hiF : i ≤ Fm := by rw [hNl] at hi; split at hi <;> omega
              refine V_iload hC kX6_runScript_75 rfl ?_
              refine V_iload_n hC kX6_runScript_77 rfl ?_
              refine V_icmp_ge hC 128 kX6_runScript_78 (by decide) (fun h78 => absurd h78 (nI_ge hiN (by omega))) (fun h78 => ?_)
              refine V_iload hC kX6_runScript_81 rfl ?_
              refine V_iconst hC (-1) kX6_runScript_83 (by decide) ?_
              refine V_icmp_ne hC 128 kX6_runScript_84 (by decide) (fun h84 => absurd h84 (not_not_intro (if_neg (by omega)))) (fun h84 => ?_)
              refine V_lload hC kX6_runScript_87 rfl ?_
              refine V_ldc2 hC lcX6_220 kX6_runScript_89 ?_
              refine V_ldiv hC kX6_runScript_92 (by decide) ?_
              refine V_lstore hC [some _, some _, some _, none, some _, none, some _, some _] kX6_runScript_93 rfl (Nat.le_of_ble_eq_true rfl) ?_
              rw [by_d hiN hN]
              refine V_aload_n hC kX6_runScript_95 rfl ?_
              refine V_lload_n hC kX6_runScript_96 rfl ?_
              refine V_lload hC kX6_runScript_97 rfl ?_
              refine V_ldiv hC kX6_runScript_99 (by_ne (by omega)) ?_
              refine V_ldc2 hC lcX6_220 kX6_runScript_100 ?_
              refine V_lrem hC kX6_runScript_103 (by decide) ?_
              rw [grp_l hS hiN hN]
              refine V_cV_fV hC (ct_laysFigures hWr (m := grp S N i) (Nat.lt_trans (grp_lt S N i) (by decide))) mkX6_laysFigures lmX6_222 kX6_runScript_104 (Nat.le_of_ble_eq_true rfl) rfl rfl rfl (Nat.le_of_ble_eq_true rfl) ⟨(Nat.le_of_ble_eq_true rfl), (Nat.le_of_ble_eq_true rfl)⟩ ⟨rfl, rfl⟩ ⟨(Nat.le_of_ble_eq_true rfl), (Nat.le_of_ble_eq_true rfl)⟩ ?_
              refine V_canon (upr (upr (G_aside sg0 mo) (mo + 7) (F_srow (sg (mo + 7)) S N (i + 1))) (mo + 1) (F_rsG (sg (mo + 1)) (sg (mo + 7)) S N i)) (by rw [upr_ne _ _ (by omega), upr_at, srow_s, upr_comm _ _ _ (by omega), upr_upr]) ?_
              refine V_aload_n hC kX6_runScript_107 rfl ?_
              refine V_nameS (fun sg2 e_sg2 => ?_)
              have hM7 : sg2 (mo + 7) = fgs (sg (mo + 7)) S N i := by rw [e_sg2, upr_ne _ _ (by omega), upr_at, srow_f]
              have hM1 : sg2 (mo + 1) = F_rsG (sg (mo + 1)) (sg (mo + 7)) S N i := by rw [e_sg2, upr_at]
              refine V_cV_fI hC (ct_succeeds hWr (by rw [hM7]; exact figN_d _ _) (by rw [hM1]; exact (Inv_rsG hI _ S N i).1)) mkX6_succeeds lmX6_226 kX6_runScript_108 (Nat.le_of_ble_eq_true rfl) rfl rfl rfl (Nat.le_of_ble_eq_true rfl) ⟨(Nat.le_of_ble_eq_true rfl), (Nat.le_of_ble_eq_true rfl)⟩ ⟨rfl, rfl⟩ ⟨(Nat.le_of_ble_eq_true rfl), (Nat.le_of_ble_eq_true rfl)⟩ ?_
              refine V_if_eq hC 118 kX6_runScript_111 (by decide) (fun h111 => ?_) (fun h111 => ?_)
              · refine V_iload hC kX6_runScript_118 rfl ?_
                refine V_istore hC [some _, some _, some _, none, some _, none, some _, some _] kX6_runScript_120 rfl (Nat.le_of_ble_eq_true rfl) ?_
                refine V_iinc hC (_ + 1) [some _, some _, some _, none, some _, none, some _, some _] kX6_runScript_122 rfl rfl rfl (Nat.le_of_ble_eq_true rfl) ?_
                refine V_goto hC 75 kX6_runScript_125 (by decide) ?_
                refine V_eq ?_ ?_ ihi
                · rw [nI_succ, show (if Fm < i + 1 then nI Fm else (-1 : Int32)) = nI i by
                    rw [hM1, hM7] at h111
                    have e : Fm = i := by
                      rcases Nat.lt_or_eq_of_le hiF with z | z
                      · exact absurd h111 (hFno i z)
                      · exact z.symm
                    rw [if_pos (by omega), e]]
                · rw [hM1, hM7, e_sg2, upr_upr]
                  rfl
              · refine V_iconst hC (-1) kX6_runScript_114 (by decide) ?_
                refine V_goto hC 120 kX6_runScript_115 (by decide) ?_
                refine V_istore hC [some _, some _, some _, none, some _, none, some _, some _] kX6_runScript_120 rfl (Nat.le_of_ble_eq_true rfl) ?_
                refine V_iinc hC (_ + 1) [some _, some _, some _, none, some _, none, some _, some _] kX6_runScript_122 rfl rfl rfl (Nat.le_of_ble_eq_true rfl) ?_
                refine V_goto hC 75 kX6_runScript_125 (by decide) ?_
                refine V_eq ?_ ?_ ihi
                · rw [nI_succ, show (if Fm < i + 1 then nI Fm else (-1 : Int32)) = -1 by
                    rw [hM1, hM7] at h111
                    refine if_neg (fun z => ?_)
                    have e : Fm = i := by omega
                    rcases hFy with q | ⟨-, q⟩
                    · omega
                    · rw [e] at q; exact h111 q]
                · rw [hM1, hM7, e_sg2, upr_upr]
                  rfl
          · refine V_aload_n hC kX6_runScript_59 rfl ?_
            refine V_iconst hC (1) kX6_runScript_60 (by decide) ?_
            refine V_cV_fI hC (ct_fails hWr 1) mkX6_fails lmX6_127 kX6_runScript_61 (Nat.le_of_ble_eq_true rfl) rfl rfl rfl (Nat.le_of_ble_eq_true rfl) ⟨(Nat.le_of_ble_eq_true rfl), (Nat.le_of_ble_eq_true rfl)⟩ ⟨rfl, rfl⟩ ⟨(Nat.le_of_ble_eq_true rfl), (Nat.le_of_ble_eq_true rfl)⟩ ?_
            refine V_ireti hC rfl kX6_runScript_64 ?_
            refine ⟨0, by with_reducible rfl, fun z => absurd z ?_, fun _ => ⟨rfl, by rw [e_sg0, ups_ups]⟩⟩
            first
            | exact fun z => (b01e.mp h43) z.1
            | exact fun z => z.2.1 ((lg_cmp_lt _ _).mp h49)
            | exact fun z => h56 ((lg_cmp_lt _ _).mpr (by rw [mn_e z.1]; exact z.2.2))
    · refine V_iload hC kX6_runScript_11 rfl ?_
      refine V_iload_n hC kX6_runScript_13 rfl ?_
      refine V_icmp_ge hC 37 kX6_runScript_14 (by decide) (fun h14 => ?_) (fun h14 => ?_)
      · exact j37 _ rfl
      · refine V_iload hC kX6_runScript_17 rfl ?_
        refine V_iconst hC (3) kX6_runScript_19 (by decide) ?_
        refine V_icmp_ge hC 37 kX6_runScript_20 (by decide) (fun h20 => ?_) (fun h20 => absurd h20 (not_not_intro (mn_x h14)))
        exact j37 _ rfl
  · refine V_iload hC kX6_runScript_11 rfl ?_
    refine V_iload_n hC kX6_runScript_13 rfl ?_
    refine V_icmp_ge hC 37 kX6_runScript_14 (by decide) (fun h14 => absurd h14 (mn_b hi).1) (fun h14 => ?_)
    refine V_iload hC kX6_runScript_17 rfl ?_
    refine V_iconst hC (3) kX6_runScript_19 (by decide) ?_
    refine V_icmp_ge hC 37 kX6_runScript_20 (by decide) (fun h20 => absurd h20 (mn_b hi).2) (fun h20 => ?_)
    refine V_lload hC kX6_runScript_23 rfl ?_
    refine V_ldc2 hC lcX6_220 kX6_runScript_25 ?_
    refine V_lmul hC kX6_runScript_28 ?_
    refine V_lstore hC [some _, some _, some _, none, some _, none, some _, none] kX6_runScript_29 rfl (Nat.le_of_ble_eq_true rfl) ?_
    refine V_iinc hC (_ + 1) [some _, some _, some _, none, some _, none, some _, none] kX6_runScript_31 rfl rfl rfl (Nat.le_of_ble_eq_true rfl) ?_
    refine V_goto hC 11 kX6_runScript_34 (by decide) ?_
    refine V_eq ?_ rfl ihi
    rw [nI_succ, by_s (by omega)]
