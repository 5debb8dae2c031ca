-- HOW cl_isPlace fI
-- HOW cl_isSpeed fI
-- HOW cl_isStrength fI
-- HOW cl_isTickCount fI
-- HOW cl_isSetting fI
-- HOW cl_isSlot fI
-- HOW cl_isSettingValue fI
-- HOW cl_shown fI
-- HOW cl_lbegin fV
-- HOW cl_lcopy fV
-- HOW cl_bcopy fV
-- HOW cl_lnum fI
-- HOW cl_bnum fI
-- HOW cl_bright fI
-- HOW cl_worth fI
-- HOW cl_bitCount fI
-- HOW cl_servedCount fI
-- HOW cl_takesHandedOn fI
-- HOW cl_takesOthers fI
-- HOW cl_bbegin fV
-- HOW cl_move fV
-- HOW cl_wishFor fV
-- HOW cl_lightR fR
-- HOW cl_lightN fR
-- HOW cl_boatR fR
-- HOW cl_boatN fR
-- HOW cl_setR fI
-- HOW cl_lightAt fR
-- HOW cl_lightAtNo fR
-- HOW cl_boatAt fR
-- HOW cl_boatAtNo fR
-- HOW cl_settingOf fI
-- HOW cl_servedBoats fI
-- HOW cl_talkingBoats fI
-- HOW cl_numberOf fI
-- HOW cl_brightest fI
-- HOW cl_isDark fI
-- HOW cl_freePlaces fI
-- HOW cl_lightFault fI
-- HOW cl_boatFault fI
-- HOW cl_steerFault fI
-- HOW cl_dimFault fI
-- HOW cl_leanFault fI
-- HOW cl_talkFault fI
-- HOW cl_putSpeed rI
-- HOW cl_putTalk rI
-- HOW cl_putLeaning rI
-- HOW cl_putStrength rI
-- HOW cl_putSetting rI
-- HOW cl_addLight rI
-- HOW cl_addBoat rI
-- HOW cl_tryLight rI
-- HOW cl_tryBoat rI
-- HOW cl_trySteer rI
-- HOW cl_tryTalk rI
-- HOW cl_tryLean rI
-- HOW cl_tryDim rI
-- HOW cl_serve rV
-- HOW cl_lose rV
-- HOW cl_bestWish fI
-- HOW cl_seekKeeper rV
-- HOW cl_ask rV
-- HOW cl_sail rV
-- HOW cl_pass rV
-- HOW cl_reset rV
-- HOW cl_copyFrom rV
-- HOW cl_stateAt fR
-- HOW cl_slotAt fR
-- HOW cl_hasStates fI
-- HOW cl_remember rV
-- HOW cl_takeBack rI
-- HOW cl_isKept fI
-- HOW cl_keep rV
-- HOW cl_bring rV
-- HOW cl_gained fI
-- HOW cl_dark fI
-- HOW cl_room fI
-- HOW cl_takeTurn rV
-- HOW cl_throwFault xV
-- HOW cf_about xI
-- HOW cf_lightOf xI
-- HOW cf_boatOf xI
-- HOW cf_bestAt xI
-- HOW cf_setting xI
-- HOW cf_light xI
-- HOW cf_boat xI
-- HOW cf_steer xI
-- HOW cf_talk xI
-- HOW cf_dim xI
-- HOW cf_set xI
-- HOW cf_ticks xI
-- HOW cf_undo xI
-- HOW cf_save xI
-- HOW cf_restore xI
-- HOW cf_simulate xI
-- HOW cf_border xI
-- HOW cp_low fI
/-! the law's own methods: cell, low, told -/
def F_low (v n : Int32) : Int32 := rm (v &&& 2147483647) n
def hN (f : Nat → Int32) (h0 : Int64) : Nat → Int64
  | 0 => h0
  | n + 1 => 31 * hN f h0 n + (f n).toInt64
def h2N (f : Nat → Nat → Int32) (m : Nat) (h0 : Int64) : Nat → Int64
  | 0 => h0
  | n + 1 => hN (f n) (h2N f m h0 n) m
def F_to1 (g : Gs) : Nat → Int64 := hN (fun k => F_tells g (nI k)) 3
def F_to2 (g : Gs) : Nat → Int64 := h2N (fun k j => R_lightOf g (nI k) (nI j)) 9 (F_to1 g 10)
def F_to3 (g : Gs) : Nat → Int64 := h2N (fun k j => R_boatOf g (nI k) (nI j)) 9 (F_to2 g (tn (g 4)))
def F_to4 (g : Gs) : Nat → Int64 := hN (fun k => g k) (F_to3 g (tn (g 5)))
def F_told (g : Gs) : Int64 := F_to4 g 4
theorem nI_succ' (n : Nat) : nI n + 1 = nI (n + 1) := nI_add n 1
theorem inn_nI {n : Nat} {M : Int32} {m : Nat} (hM : M = nI m) (h : n ≤ m) (hm : m < 1000) : inn (nI n) 0 M := by
  subst hM
  exact ⟨Int32.le_iff_toInt_le.mpr (by rw [nI_toInt (n := n) (by omega)]; show (0 : Int) ≤ _; omega), Int32.le_iff_toInt_le.mpr (by rw [nI_toInt (n := n) (by omega), nI_toInt (n := m) (by omega)]; omega)⟩
theorem Ka_0 {n : Nat} (h : n < 10) : K_about (nI n) = 0 := if_pos (inn_nI (m := 9) rfl (by omega) (by decide))
theorem Ks_0 {n : Nat} (h : n < 4) : K_setting (nI n) = 0 := if_pos (inn_nI (m := 3) rfl (by omega) (by decide))
theorem Inv.m4 {g : Gs} (hI : Inv g) : g 4 = nI (tn (g 4)) ∧ tn (g 4) ≤ 6 := ⟨(cnt_in hI.hc4.1 hI.hc4.2).2, (cnt_in hI.hc4.1 hI.hc4.2).1⟩
theorem Inv.m5 {g : Gs} (hI : Inv g) : g 5 = nI (tn (g 5)) ∧ tn (g 5) ≤ 8 := ⟨(cnt_in hI.hc5.1 hI.hc5.2).2, (cnt_in hI.hc5.1 hI.hc5.2).1⟩
theorem nI_pred' {n k : Nat} (h : n < k) (hk : k < 1000) : nI k - 1 = nI (k - 1) := by
  obtain ⟨j, rfl⟩ : ∃ j, k = j + 1 := ⟨k - 1, by omega⟩
  rw [← nI_succ', Nat.add_sub_cancel]
  exact Int32.add_sub_cancel (nI j) 1
theorem in_l {g : Gs} (hI : Inv g) {n : Nat} (h : n < tn (g 4)) : inn (nI n) 0 (g 4 - 1) := by
  have h4 := hI.m4
  exact inn_nI (m := tn (g 4) - 1) (by rw [← nI_pred' h (by omega), ← h4.1]) (by omega) (by omega)
theorem in_b {g : Gs} (hI : Inv g) {n : Nat} (h : n < tn (g 5)) : inn (nI n) 0 (g 5 - 1) := by
  have h5 := hI.m5
  exact inn_nI (m := tn (g 5) - 1) (by rw [← nI_pred' h (by omega), ← h5.1]) (by omega) (by omega)
theorem Kl_0 {g : Gs} (hI : Inv g) {n j : Nat} (h : n < tn (g 4)) (hj : j < 9) : K_lightOf g (nI n) (nI j) = 0 := by
  rw [K_lightOf, if_pos (in_l hI h), if_pos (show inn (nI j) 0 8 from inn_nI (m := 8) rfl (by omega) (by decide))]
theorem Kb_0 {g : Gs} (hI : Inv g) {n j : Nat} (h : n < tn (g 5)) (hj : j < 9) : K_boatOf g (nI n) (nI j) = 0 := by
  rw [K_boatOf, if_pos (in_b hI h), if_pos (show inn (nI j) 0 8 from inn_nI (m := 8) rfl (by omega) (by decide))]
theorem tells0 (g : Gs) : F_tells g 0 = g 4 := if_pos (by decide)
theorem tells1 (g : Gs) : F_tells g 1 = g 5 := (if_pos (by decide)).trans (congrArg g (show tn (4 + 1) = 5 by decide))
def mtL_low : Mt := (yL_low, cL_low, 2, (some .int), 0, 0, 0, 0)
theorem kL_low_0 : Dk mtL_low 0 (.iload_n 0) 1 1 := ⟨by decide +kernel, rfl⟩
theorem kL_low_1 : Dk mtL_low 1 (.ldc 7) 2 3 := ⟨by decide +kernel, rfl⟩
theorem kL_low_3 : Dk mtL_low 3 (.iand) 1 4 := ⟨by decide +kernel, rfl⟩
theorem kL_low_4 : Dk mtL_low 4 (.iload_n 1) 1 5 := ⟨by decide +kernel, rfl⟩
theorem kL_low_5 : Dk mtL_low 5 (.irem) 1 6 := ⟨by decide +kernel, rfl⟩
theorem kL_low_6 : Dk mtL_low 6 (.ireturn) 1 7 := ⟨by decide +kernel, rfl⟩
theorem lcL_7 : Cond.constant RL 7 (2147483647) ∈ lw_tbl := by decide +kernel
set_option maxHeartbeats 4000000 in
set_option maxRecDepth 100000 in
theorem cp_low {l : Launch} {w : Wd} {sg : Sg} (hWr : Wr w) (v n : Int32) (hn : ¬ n = 0) : M l mtL_low w [vI v, vI n] sg (fI (F_low v n) sg) := by
  refine M_of [some (vI v), some (vI n)] rfl (Nat.le_of_ble_eq_true rfl) (by decide +kernel) ?_
  intro p_ e_ s_ m_ args_ below_ meth_ c_ hC hO
  refine V_iload_n hC kL_low_0 rfl ?_
  refine V_ldc hC lcL_7 kL_low_1 ?_
  refine V_iand hC kL_low_3 ?_
  refine V_iload_n hC kL_low_4 rfl ?_
  refine V_irem hC kL_low_5 hn ?_
  refine V_ireti hC rfl kL_low_6 ?_
  exact ⟨by unfold F_low; with_reducible rfl, by with_reducible rfl⟩
-- HOW cp_low fI
set_option maxRecDepth 100000 in
theorem nI_ge' {a b : Nat} (h : a < b) (hb : b < 1000) : ¬ nI b ≤ nI a := nI_ge h (by omega)
def mtL_cell : Mt := (yL_cell, cL_cell, 2, (some .int), 0, 0, 1, 6)
theorem kL_cell_0 : Dk mtL_cell 0 (.iload_n 1) 1 1 := ⟨by decide +kernel, rfl⟩
theorem kL_cell_1 : Dk mtL_cell 1 (.aload_n 0) 1 2 := ⟨by decide +kernel, rfl⟩
theorem kL_cell_2 : Dk mtL_cell 2 (.arraylength) 1 3 := ⟨by decide +kernel, rfl⟩
theorem kL_cell_3 : Dk mtL_cell 3 (.if_icmp .ge 9) 3 6 := ⟨by decide +kernel, rfl⟩
theorem kL_cell_6 : Dk mtL_cell 6 (.aload_n 0) 1 7 := ⟨by decide +kernel, rfl⟩
theorem kL_cell_7 : Dk mtL_cell 7 (.iload_n 1) 1 8 := ⟨by decide +kernel, rfl⟩
theorem kL_cell_8 : Dk mtL_cell 8 (.iaload) 1 9 := ⟨by decide +kernel, rfl⟩
theorem kL_cell_9 : Dk mtL_cell 9 (.goto 15) 3 12 := ⟨by decide +kernel, rfl⟩
theorem kL_cell_12 : Dk mtL_cell 12 (.sipush 7919) 3 15 := ⟨by decide +kernel, rfl⟩
theorem kL_cell_15 : Dk mtL_cell 15 (.iload_n 1) 1 16 := ⟨by decide +kernel, rfl⟩
theorem kL_cell_16 : Dk mtL_cell 16 (.iconst 3) 1 17 := ⟨by decide +kernel, rfl⟩
theorem kL_cell_17 : Dk mtL_cell 17 (.iadd) 1 18 := ⟨by decide +kernel, rfl⟩
theorem kL_cell_18 : Dk mtL_cell 18 (.imul) 1 19 := ⟨by decide +kernel, rfl⟩
theorem kL_cell_19 : Dk mtL_cell 19 (.iload_n 1) 1 20 := ⟨by decide +kernel, rfl⟩
theorem kL_cell_20 : Dk mtL_cell 20 (.bipush 11) 2 22 := ⟨by decide +kernel, rfl⟩
theorem kL_cell_22 : Dk mtL_cell 22 (.iadd) 1 23 := ⟨by decide +kernel, rfl⟩
theorem kL_cell_23 : Dk mtL_cell 23 (.imul) 1 24 := ⟨by decide +kernel, rfl⟩
theorem kL_cell_24 : Dk mtL_cell 24 (.ireturn) 1 25 := ⟨by decide +kernel, rfl⟩
set_option maxHeartbeats 4000000 in
set_option maxRecDepth 100000 in
theorem cp_cell {l : Launch} {w : Wd} {sg : Sg} (hWr : Wr w) (hl0 : l.stackTraces = false) {n : Nat} (hn : n < 1000) : MX l mtL_cell w [vR (some (21, 0, 2000000)), vI (nI n)] sg (fun r g2 => (∃ y, r = some (vI y)) ∧ g2 = sg) (pF) := by
  refine MX_of hl0 [some (vR (some (21, 0, 2000000))), some (vI (nI n))] rfl (Nat.le_of_ble_eq_true rfl) (by decide +kernel) ?_
  intro p_ e_ s_ m_ args_ below_ meth_ c_ hC hX hO
  refine V_scr hC hX.1 (fun L xs hL hlen hald => ?_)
  refine V_iload_n hC kL_cell_0 rfl ?_
  refine V_aload_n hC kL_cell_1 rfl ?_
  refine hlen _ _ _ _ _ _ _ _ kL_cell_2 ?_
  refine V_icmp_ge hC 12 kL_cell_3 (by decide) (fun h3 => ?_) (fun h3 => ?_)
  · refine V_sipush hC (7919) kL_cell_12 (by decide) ?_
    refine V_iload_n hC kL_cell_15 rfl ?_
    refine V_iconst hC (3) kL_cell_16 (by decide) ?_
    refine V_iadd hC kL_cell_17 ?_
    refine V_imul hC kL_cell_18 ?_
    refine V_iload_n hC kL_cell_19 rfl ?_
    refine V_bipush hC (11) kL_cell_20 (by decide) ?_
    refine V_iadd hC kL_cell_22 ?_
    refine V_imul hC kL_cell_23 ?_
    refine V_iretiX hC rfl kL_cell_24 ⟨(Nat.le_of_ble_eq_true rfl), (Nat.le_of_ble_eq_true rfl)⟩ ?_
    exact ⟨⟨_, rfl⟩, rfl⟩
  · have hin : vp_in (nI n) L := by
      refine vp_in_nI ?_ hL
      rcases Nat.lt_or_ge n L with h | h
      · exact h
      · exact absurd (Int32.le_iff_toInt_le.mpr (by rw [nI_toInt (n := L) hL, nI_toInt (n := n) (by omega)]; omega)) h3
    refine V_aload_n hC kL_cell_6 rfl ?_
    refine V_iload_n hC kL_cell_7 rfl ?_
    refine hald _ _ _ _ _ _ _ _ _ kL_cell_8 hin ?_
    refine V_goto hC 24 kL_cell_9 (by decide) ?_
    refine V_iretiX hC rfl kL_cell_24 ⟨(Nat.le_of_ble_eq_true rfl), (Nat.le_of_ble_eq_true rfl)⟩ ?_
    exact ⟨⟨_, rfl⟩, rfl⟩
def mtL_told : Mt := (yL_told, cL_told, 5, (some .long), 8, 244, 200, 1200)
theorem kL_told_0 : Dk mtL_told 0 (.ldc2_w 8) 3 3 := ⟨by decide +kernel, rfl⟩
theorem kL_told_3 : Dk mtL_told 3 (.lstore_n 1) 1 4 := ⟨by decide +kernel, rfl⟩
theorem kL_told_4 : Dk mtL_told 4 (.iconst 0) 1 5 := ⟨by decide +kernel, rfl⟩
theorem kL_told_5 : Dk mtL_told 5 (.istore_n 3) 1 6 := ⟨by decide +kernel, rfl⟩
theorem kL_told_6 : Dk mtL_told 6 (.iload_n 3) 1 7 := ⟨by decide +kernel, rfl⟩
theorem kL_told_7 : Dk mtL_told 7 (.bipush 10) 2 9 := ⟨by decide +kernel, rfl⟩
theorem kL_told_9 : Dk mtL_told 9 (.if_icmp .ge 22) 3 12 := ⟨by decide +kernel, rfl⟩
theorem kL_told_12 : Dk mtL_told 12 (.ldc2_w 10) 3 15 := ⟨by decide +kernel, rfl⟩
theorem kL_told_15 : Dk mtL_told 15 (.lload_n 1) 1 16 := ⟨by decide +kernel, rfl⟩
theorem kL_told_16 : Dk mtL_told 16 (.lmul) 1 17 := ⟨by decide +kernel, rfl⟩
theorem kL_told_17 : Dk mtL_told 17 (.aload_n 0) 1 18 := ⟨by decide +kernel, rfl⟩
theorem kL_told_18 : Dk mtL_told 18 (.iload_n 3) 1 19 := ⟨by decide +kernel, rfl⟩
theorem kL_told_19 : Dk mtL_told 19 (.invokevirtual 12) 3 22 := ⟨by decide +kernel, rfl⟩
theorem kL_told_22 : Dk mtL_told 22 (.i2l) 1 23 := ⟨by decide +kernel, rfl⟩
theorem kL_told_23 : Dk mtL_told 23 (.ladd) 1 24 := ⟨by decide +kernel, rfl⟩
theorem kL_told_24 : Dk mtL_told 24 (.lstore_n 1) 1 25 := ⟨by decide +kernel, rfl⟩
theorem kL_told_25 : Dk mtL_told 25 (.iinc 3 1) 3 28 := ⟨by decide +kernel, rfl⟩
theorem kL_told_28 : Dk mtL_told 28 (.goto (-22)) 3 31 := ⟨by decide +kernel, rfl⟩
theorem kL_told_31 : Dk mtL_told 31 (.iconst 0) 1 32 := ⟨by decide +kernel, rfl⟩
theorem kL_told_32 : Dk mtL_told 32 (.istore_n 3) 1 33 := ⟨by decide +kernel, rfl⟩
theorem kL_told_33 : Dk mtL_told 33 (.iload_n 3) 1 34 := ⟨by decide +kernel, rfl⟩
theorem kL_told_34 : Dk mtL_told 34 (.aload_n 0) 1 35 := ⟨by decide +kernel, rfl⟩
theorem kL_told_35 : Dk mtL_told 35 (.iconst 0) 1 36 := ⟨by decide +kernel, rfl⟩
theorem kL_told_36 : Dk mtL_told 36 (.invokevirtual 12) 3 39 := ⟨by decide +kernel, rfl⟩
theorem kL_told_39 : Dk mtL_told 39 (.if_icmp .ge 40) 3 42 := ⟨by decide +kernel, rfl⟩
theorem kL_told_42 : Dk mtL_told 42 (.iconst 0) 1 43 := ⟨by decide +kernel, rfl⟩
theorem kL_told_43 : Dk mtL_told 43 (.istore 4) 2 45 := ⟨by decide +kernel, rfl⟩
theorem kL_told_45 : Dk mtL_told 45 (.iload 4) 2 47 := ⟨by decide +kernel, rfl⟩
theorem kL_told_47 : Dk mtL_told 47 (.bipush 9) 2 49 := ⟨by decide +kernel, rfl⟩
theorem kL_told_49 : Dk mtL_told 49 (.if_icmp .ge 24) 3 52 := ⟨by decide +kernel, rfl⟩
theorem kL_told_52 : Dk mtL_told 52 (.ldc2_w 10) 3 55 := ⟨by decide +kernel, rfl⟩
theorem kL_told_55 : Dk mtL_told 55 (.lload_n 1) 1 56 := ⟨by decide +kernel, rfl⟩
theorem kL_told_56 : Dk mtL_told 56 (.lmul) 1 57 := ⟨by decide +kernel, rfl⟩
theorem kL_told_57 : Dk mtL_told 57 (.aload_n 0) 1 58 := ⟨by decide +kernel, rfl⟩
theorem kL_told_58 : Dk mtL_told 58 (.iload_n 3) 1 59 := ⟨by decide +kernel, rfl⟩
theorem kL_told_59 : Dk mtL_told 59 (.iload 4) 2 61 := ⟨by decide +kernel, rfl⟩
theorem kL_told_61 : Dk mtL_told 61 (.invokevirtual 18) 3 64 := ⟨by decide +kernel, rfl⟩
theorem kL_told_64 : Dk mtL_told 64 (.i2l) 1 65 := ⟨by decide +kernel, rfl⟩
theorem kL_told_65 : Dk mtL_told 65 (.ladd) 1 66 := ⟨by decide +kernel, rfl⟩
theorem kL_told_66 : Dk mtL_told 66 (.lstore_n 1) 1 67 := ⟨by decide +kernel, rfl⟩
theorem kL_told_67 : Dk mtL_told 67 (.iinc 4 1) 3 70 := ⟨by decide +kernel, rfl⟩
theorem kL_told_70 : Dk mtL_told 70 (.goto (-25)) 3 73 := ⟨by decide +kernel, rfl⟩
theorem kL_told_73 : Dk mtL_told 73 (.iinc 3 1) 3 76 := ⟨by decide +kernel, rfl⟩
theorem kL_told_76 : Dk mtL_told 76 (.goto (-43)) 3 79 := ⟨by decide +kernel, rfl⟩
theorem kL_told_79 : Dk mtL_told 79 (.iconst 0) 1 80 := ⟨by decide +kernel, rfl⟩
theorem kL_told_80 : Dk mtL_told 80 (.istore_n 3) 1 81 := ⟨by decide +kernel, rfl⟩
theorem kL_told_81 : Dk mtL_told 81 (.iload_n 3) 1 82 := ⟨by decide +kernel, rfl⟩
theorem kL_told_82 : Dk mtL_told 82 (.aload_n 0) 1 83 := ⟨by decide +kernel, rfl⟩
theorem kL_told_83 : Dk mtL_told 83 (.iconst 1) 1 84 := ⟨by decide +kernel, rfl⟩
theorem kL_told_84 : Dk mtL_told 84 (.invokevirtual 12) 3 87 := ⟨by decide +kernel, rfl⟩
theorem kL_told_87 : Dk mtL_told 87 (.if_icmp .ge 40) 3 90 := ⟨by decide +kernel, rfl⟩
theorem kL_told_90 : Dk mtL_told 90 (.iconst 0) 1 91 := ⟨by decide +kernel, rfl⟩
theorem kL_told_91 : Dk mtL_told 91 (.istore 4) 2 93 := ⟨by decide +kernel, rfl⟩
theorem kL_told_93 : Dk mtL_told 93 (.iload 4) 2 95 := ⟨by decide +kernel, rfl⟩
theorem kL_told_95 : Dk mtL_told 95 (.bipush 9) 2 97 := ⟨by decide +kernel, rfl⟩
theorem kL_told_97 : Dk mtL_told 97 (.if_icmp .ge 24) 3 100 := ⟨by decide +kernel, rfl⟩
theorem kL_told_100 : Dk mtL_told 100 (.ldc2_w 10) 3 103 := ⟨by decide +kernel, rfl⟩
theorem kL_told_103 : Dk mtL_told 103 (.lload_n 1) 1 104 := ⟨by decide +kernel, rfl⟩
theorem kL_told_104 : Dk mtL_told 104 (.lmul) 1 105 := ⟨by decide +kernel, rfl⟩
theorem kL_told_105 : Dk mtL_told 105 (.aload_n 0) 1 106 := ⟨by decide +kernel, rfl⟩
theorem kL_told_106 : Dk mtL_told 106 (.iload_n 3) 1 107 := ⟨by decide +kernel, rfl⟩
theorem kL_told_107 : Dk mtL_told 107 (.iload 4) 2 109 := ⟨by decide +kernel, rfl⟩
theorem kL_told_109 : Dk mtL_told 109 (.invokevirtual 22) 3 112 := ⟨by decide +kernel, rfl⟩
theorem kL_told_112 : Dk mtL_told 112 (.i2l) 1 113 := ⟨by decide +kernel, rfl⟩
theorem kL_told_113 : Dk mtL_told 113 (.ladd) 1 114 := ⟨by decide +kernel, rfl⟩
theorem kL_told_114 : Dk mtL_told 114 (.lstore_n 1) 1 115 := ⟨by decide +kernel, rfl⟩
theorem kL_told_115 : Dk mtL_told 115 (.iinc 4 1) 3 118 := ⟨by decide +kernel, rfl⟩
theorem kL_told_118 : Dk mtL_told 118 (.goto (-25)) 3 121 := ⟨by decide +kernel, rfl⟩
theorem kL_told_121 : Dk mtL_told 121 (.iinc 3 1) 3 124 := ⟨by decide +kernel, rfl⟩
theorem kL_told_124 : Dk mtL_told 124 (.goto (-43)) 3 127 := ⟨by decide +kernel, rfl⟩
theorem kL_told_127 : Dk mtL_told 127 (.iconst 0) 1 128 := ⟨by decide +kernel, rfl⟩
theorem kL_told_128 : Dk mtL_told 128 (.istore_n 3) 1 129 := ⟨by decide +kernel, rfl⟩
theorem kL_told_129 : Dk mtL_told 129 (.iload_n 3) 1 130 := ⟨by decide +kernel, rfl⟩
theorem kL_told_130 : Dk mtL_told 130 (.iconst 4) 1 131 := ⟨by decide +kernel, rfl⟩
theorem kL_told_131 : Dk mtL_told 131 (.if_icmp .ge 22) 3 134 := ⟨by decide +kernel, rfl⟩
theorem kL_told_134 : Dk mtL_told 134 (.ldc2_w 10) 3 137 := ⟨by decide +kernel, rfl⟩
theorem kL_told_137 : Dk mtL_told 137 (.lload_n 1) 1 138 := ⟨by decide +kernel, rfl⟩
theorem kL_told_138 : Dk mtL_told 138 (.lmul) 1 139 := ⟨by decide +kernel, rfl⟩
theorem kL_told_139 : Dk mtL_told 139 (.aload_n 0) 1 140 := ⟨by decide +kernel, rfl⟩
theorem kL_told_140 : Dk mtL_told 140 (.iload_n 3) 1 141 := ⟨by decide +kernel, rfl⟩
theorem kL_told_141 : Dk mtL_told 141 (.invokevirtual 25) 3 144 := ⟨by decide +kernel, rfl⟩
theorem kL_told_144 : Dk mtL_told 144 (.i2l) 1 145 := ⟨by decide +kernel, rfl⟩
theorem kL_told_145 : Dk mtL_told 145 (.ladd) 1 146 := ⟨by decide +kernel, rfl⟩
theorem kL_told_146 : Dk mtL_told 146 (.lstore_n 1) 1 147 := ⟨by decide +kernel, rfl⟩
theorem kL_told_147 : Dk mtL_told 147 (.iinc 3 1) 3 150 := ⟨by decide +kernel, rfl⟩
theorem kL_told_150 : Dk mtL_told 150 (.goto (-21)) 3 153 := ⟨by decide +kernel, rfl⟩
theorem kL_told_153 : Dk mtL_told 153 (.lload_n 1) 1 154 := ⟨by decide +kernel, rfl⟩
theorem kL_told_154 : Dk mtL_told 154 (.lreturn) 1 155 := ⟨by decide +kernel, rfl⟩
theorem lcL_8 : Cond.constantLong RL 8 (3) ∈ lw_tbl := by decide +kernel
theorem mkX5_about : MkV mtX5_about 1 := ⟨List.mem_of_getElem? (i := 238) (by decide +kernel), by decide +kernel, by decide +kernel, by decide +kernel, ⟨by decide +kernel, by decide +kernel, by decide +kernel⟩⟩
theorem lxL_12 : Cond.methodLink RL 12 (mY mtX5_about) ∈ lw_tbl := by decide +kernel
theorem lcL_10 : Cond.constantLong RL 10 (31) ∈ lw_tbl := by decide +kernel
theorem mkX5_setting : MkV mtX5_setting 1 := ⟨List.mem_of_getElem? (i := 649) (by decide +kernel), by decide +kernel, by decide +kernel, by decide +kernel, ⟨by decide +kernel, by decide +kernel, by decide +kernel⟩⟩
theorem lxL_25 : Cond.methodLink RL 25 (mY mtX5_setting) ∈ lw_tbl := by decide +kernel
theorem mkX5_boatOf : MkV mtX5_boatOf 2 := ⟨List.mem_of_getElem? (i := 639) (by decide +kernel), by decide +kernel, by decide +kernel, by decide +kernel, ⟨by decide +kernel, by decide +kernel, by decide +kernel⟩⟩
theorem lxL_22 : Cond.methodLink RL 22 (mY mtX5_boatOf) ∈ lw_tbl := by decide +kernel
theorem mkX5_lightOf : MkV mtX5_lightOf 2 := ⟨List.mem_of_getElem? (i := 629) (by decide +kernel), by decide +kernel, by decide +kernel, by decide +kernel, ⟨by decide +kernel, by decide +kernel, by decide +kernel⟩⟩
theorem lxL_18 : Cond.methodLink RL 18 (mY mtX5_lightOf) ∈ lw_tbl := by decide +kernel
set_option maxHeartbeats 4000000 in
set_option maxRecDepth 100000 in
theorem cp_told {l : Launch} {w : Wd} {sg : Sg} (hWr : Wr w) (hl0 : l.stackTraces = false) {x : Nat} {g : Gs} (hR : Rel sg (x + 4) g) (hI : Inv g) : MX l mtL_told w [vR (some (5, 0, x))] sg (fun r g2 => r = some (vL (F_told g)) ∧ g2 = sg) (pF) := by
  refine MX_of hl0 [some (vR (some (5, 0, x))), none, none, none, none] rfl (Nat.le_of_ble_eq_true rfl) (by decide +kernel) ?_
  intro p_ e_ s_ m_ args_ below_ meth_ c_ hC hX hO
  have hm4 := hI.m4.2
  have hm5 := hI.m5.2
  refine V_ldc2 hC lcL_8 kL_told_0 ?_
  refine V_lstore_n hC [some _, some _, none, none, none] kL_told_3 rfl (Nat.le_of_ble_eq_true rfl) ?_
  refine V_iconst hC (0) kL_told_4 (by decide) ?_
  refine V_istore_n hC [some _, some _, none, some _, none] kL_told_5 rfl (Nat.le_of_ble_eq_true rfl) ?_
  refine V_loopC (10) (fun i => i) (fun i => 6 * i) (fun i => [some (vR (some (5, 0, x))), some (vL (F_to1 g i)), none, some (vI (nI i)), none]) rfl ⟨rfl, rfl⟩ ?_ (fun i hi ihi => ?_)
  · refine V_iload_n hC kL_told_6 rfl ?_
    refine V_bipush hC (10) kL_told_7 (by decide) ?_
    refine V_icmp_ge hC 31 kL_told_9 (by decide) (fun h9 => ?_) (fun h9 => absurd h9 (not_not_intro (Int32.le_refl _)))
    refine V_iconst hC (0) kL_told_31 (by decide) ?_
    refine V_istore_n hC [some _, some _, none, some _, none] kL_told_32 rfl (Nat.le_of_ble_eq_true rfl) ?_
    refine V_wd (k := 10) (n := 60) ⟨(by have := hI.m4.2; have := hI.m5.2; omega), (by have := hI.m4.2; have := hI.m5.2; omega)⟩ ?_
    refine V_loopC (tn (g 4)) (fun k => 10 + 10 * k) (fun k => 6 * (10 + 10 * k)) (fun k => [some (vR (some (5, 0, x))), some (vL (F_to2 g k)), none, some (vI (nI k)), none]) rfl ⟨(by omega), (by omega)⟩ ?_ (fun k hk ihk => ?_)
    · refine V_iload_n hC kL_told_33 rfl ?_
      refine V_aload_n hC kL_told_34 rfl ?_
      refine V_iconst hC (0) kL_told_35 (by decide) ?_
      refine V_cVf hC hX.1 (cf_about hWr hl0 (0) hR hI) (fun _ _ h => h.1) (Ka_0 (n := 0) (by decide)) mkX5_about lxL_12 kL_told_36 (Nat.le_of_ble_eq_true rfl) rfl rfl rfl (Nat.le_of_ble_eq_true rfl) ⟨(Nat.le_of_ble_eq_true rfl), (Nat.le_of_ble_eq_true rfl)⟩ ⟨rfl, rfl⟩ ⟨(by show _ ≤ 200; omega), (by show _ ≤ 1200; omega)⟩ ?_
      rw [tells0]
      refine V_icmp_ge hC 79 kL_told_39 (by decide) (fun h39 => ?_) (fun h39 => absurd h39 (not_not_intro (cnt_le hI.hc4.1)))
      refine V_iconst hC (0) kL_told_79 (by decide) ?_
      refine V_istore_n hC [some _, some _, none, some _, none] kL_told_80 rfl (Nat.le_of_ble_eq_true rfl) ?_
      refine V_wd (k := 71) (n := 426) ⟨(by have := hI.m4.2; have := hI.m5.2; omega), (by have := hI.m4.2; have := hI.m5.2; omega)⟩ ?_
      refine V_loopC (tn (g 5)) (fun k => 71 + 10 * k) (fun k => 6 * (71 + 10 * k)) (fun k => [some (vR (some (5, 0, x))), some (vL (F_to3 g k)), none, some (vI (nI k)), none]) rfl ⟨(by omega), (by omega)⟩ ?_ (fun k hk ihk => ?_)
      · refine V_iload_n hC kL_told_81 rfl ?_
        refine V_aload_n hC kL_told_82 rfl ?_
        refine V_iconst hC (1) kL_told_83 (by decide) ?_
        refine V_cVf hC hX.1 (cf_about hWr hl0 (1) hR hI) (fun _ _ h => h.1) (Ka_0 (n := 1) (by decide)) mkX5_about lxL_12 kL_told_84 (Nat.le_of_ble_eq_true rfl) rfl rfl rfl (Nat.le_of_ble_eq_true rfl) ⟨(Nat.le_of_ble_eq_true rfl), (Nat.le_of_ble_eq_true rfl)⟩ ⟨rfl, rfl⟩ ⟨(by show _ ≤ 200; omega), (by show _ ≤ 1200; omega)⟩ ?_
        rw [tells1]
        refine V_icmp_ge hC 127 kL_told_87 (by decide) (fun h87 => ?_) (fun h87 => absurd h87 (not_not_intro (cnt_le hI.hc5.1)))
        refine V_iconst hC (0) kL_told_127 (by decide) ?_
        refine V_istore_n hC [some _, some _, none, some _, none] kL_told_128 rfl (Nat.le_of_ble_eq_true rfl) ?_
        refine V_wd (k := 152) (n := 912) ⟨(by have := hI.m4.2; have := hI.m5.2; omega), (by have := hI.m4.2; have := hI.m5.2; omega)⟩ ?_
        refine V_loopC (4) (fun i => 152 + i) (fun i => 6 * (152 + i)) (fun i => [some (vR (some (5, 0, x))), some (vL (F_to4 g i)), none, some (vI (nI i)), none]) rfl ⟨(by omega), (by omega)⟩ ?_ (fun i hi ihi => ?_)
        · refine V_iload_n hC kL_told_129 rfl ?_
          refine V_iconst hC (4) kL_told_130 (by decide) ?_
          refine V_icmp_ge hC 153 kL_told_131 (by decide) (fun h131 => ?_) (fun h131 => absurd h131 (not_not_intro (Int32.le_refl _)))
          refine V_lload_n hC kL_told_153 rfl ?_
          refine V_lretX hC rfl kL_told_154 ⟨(by show _ ≤ 200; omega), (by show _ ≤ 1200; omega)⟩ ?_
          exact ⟨rfl, rfl⟩
        · refine V_iload_n hC kL_told_129 rfl ?_
          refine V_iconst hC (4) kL_told_130 (by decide) ?_
          refine V_icmp_ge hC 153 kL_told_131 (by decide) (fun h131 => absurd h131 (nI_ge' hi (by decide))) (fun h131 => ?_)
          refine V_ldc2 hC lcL_10 kL_told_134 ?_
          refine V_lload_n hC kL_told_137 rfl ?_
          refine V_lmul hC kL_told_138 ?_
          refine V_aload_n hC kL_told_139 rfl ?_
          refine V_iload_n hC kL_told_140 rfl ?_
          refine V_cVf hC hX.1 (cf_setting hWr hl0 (nI i) hR hI) (fun _ _ h => h.1) (Ks_0 hi) mkX5_setting lxL_25 kL_told_141 (Nat.le_of_ble_eq_true rfl) rfl rfl rfl (Nat.le_of_ble_eq_true rfl) ⟨(Nat.le_of_ble_eq_true rfl), (Nat.le_of_ble_eq_true rfl)⟩ ⟨rfl, rfl⟩ ⟨(by show _ ≤ 200; omega), (by show _ ≤ 1200; omega)⟩ ?_
          refine V_i2l hC kL_told_144 ?_
          refine V_ladd hC kL_told_145 ?_
          refine V_lstore_n hC [some _, some _, none, some _, none] kL_told_146 rfl (Nat.le_of_ble_eq_true rfl) ?_
          refine V_iinc hC (_ + 1) [some _, some _, none, some _, none] kL_told_147 rfl rfl rfl (Nat.le_of_ble_eq_true rfl) ?_
          refine V_goto hC 129 kL_told_150 (by decide) ?_
          refine V_wd ⟨by omega, by omega⟩ (V_eq ?_ rfl ihi)
          rw [← nI_succ' i, F_to4, hN, show tn (nI i) = i from nI_clamp (by omega)]
      · refine V_iload_n hC kL_told_81 rfl ?_
        refine V_aload_n hC kL_told_82 rfl ?_
        refine V_iconst hC (1) kL_told_83 (by decide) ?_
        refine V_cVf hC hX.1 (cf_about hWr hl0 (1) hR hI) (fun _ _ h => h.1) (Ka_0 (n := 1) (by decide)) mkX5_about lxL_12 kL_told_84 (Nat.le_of_ble_eq_true rfl) rfl rfl rfl (Nat.le_of_ble_eq_true rfl) ⟨(Nat.le_of_ble_eq_true rfl), (Nat.le_of_ble_eq_true rfl)⟩ ⟨rfl, rfl⟩ ⟨(by show _ ≤ 200; omega), (by show _ ≤ 1200; omega)⟩ ?_
        rw [tells1]
        refine V_icmp_ge hC 127 kL_told_87 (by decide) (fun h87 => absurd h87 (cnt_lt hI.hc5.1 hk)) (fun h87 => ?_)
        refine V_iconst hC (0) kL_told_90 (by decide) ?_
        refine V_istore hC [some _, some _, none, some _, some _] kL_told_91 rfl (Nat.le_of_ble_eq_true rfl) ?_
        refine V_loopC (9) (fun j => 71 + 10 * k + 1 + j) (fun j => 6 * (71 + 10 * k + 1 + j)) (fun j => [some (vR (some (5, 0, x))), some (vL (hN (fun j => R_boatOf g (nI k) (nI j)) (F_to3 g k) j)), none, some (vI (nI k)), some (vI (nI j))]) rfl ⟨(by omega), (by omega)⟩ ?_ (fun j hj ihj => ?_)
        · refine V_iload hC kL_told_93 rfl ?_
          refine V_bipush hC (9) kL_told_95 (by decide) ?_
          refine V_icmp_ge hC 121 kL_told_97 (by decide) (fun h97 => ?_) (fun h97 => absurd h97 (not_not_intro (Int32.le_refl _)))
          refine V_iinc hC (_ + 1) [some _, some _, none, some _, some _] kL_told_121 rfl rfl rfl (Nat.le_of_ble_eq_true rfl) ?_
          refine V_goto hC 81 kL_told_124 (by decide) ?_
          refine V_drop 4 [_, _, _, _, none] rfl ?_
          refine V_wd ⟨by omega, by omega⟩ (V_eq ?_ rfl ihk)
          rw [← nI_succ' k]
          rfl
        · refine V_iload hC kL_told_93 rfl ?_
          refine V_bipush hC (9) kL_told_95 (by decide) ?_
          refine V_icmp_ge hC 121 kL_told_97 (by decide) (fun h97 => absurd h97 (nI_ge' hj (by decide))) (fun h97 => ?_)
          refine V_ldc2 hC lcL_10 kL_told_100 ?_
          refine V_lload_n hC kL_told_103 rfl ?_
          refine V_lmul hC kL_told_104 ?_
          refine V_aload_n hC kL_told_105 rfl ?_
          refine V_iload_n hC kL_told_106 rfl ?_
          refine V_iload hC kL_told_107 rfl ?_
          refine V_cVf hC hX.1 (cf_boatOf hWr hl0 (nI k) (nI j) hR hI) (fun _ _ h => h.1) (Kb_0 hI hk hj) mkX5_boatOf lxL_22 kL_told_109 (Nat.le_of_ble_eq_true rfl) rfl rfl rfl (Nat.le_of_ble_eq_true rfl) ⟨(Nat.le_of_ble_eq_true rfl), (Nat.le_of_ble_eq_true rfl)⟩ ⟨rfl, rfl⟩ ⟨(by show _ ≤ 200; omega), (by show _ ≤ 1200; omega)⟩ ?_
          refine V_i2l hC kL_told_112 ?_
          refine V_ladd hC kL_told_113 ?_
          refine V_lstore_n hC [some _, some _, none, some _, some _] kL_told_114 rfl (Nat.le_of_ble_eq_true rfl) ?_
          refine V_iinc hC (_ + 1) [some _, some _, none, some _, some _] kL_told_115 rfl rfl rfl (Nat.le_of_ble_eq_true rfl) ?_
          refine V_goto hC 93 kL_told_118 (by decide) ?_
          refine V_wd ⟨by omega, by omega⟩ (V_eq ?_ rfl ihj)
          rw [← nI_succ' j]
          rfl
    · refine V_iload_n hC kL_told_33 rfl ?_
      refine V_aload_n hC kL_told_34 rfl ?_
      refine V_iconst hC (0) kL_told_35 (by decide) ?_
      refine V_cVf hC hX.1 (cf_about hWr hl0 (0) hR hI) (fun _ _ h => h.1) (Ka_0 (n := 0) (by decide)) mkX5_about lxL_12 kL_told_36 (Nat.le_of_ble_eq_true rfl) rfl rfl rfl (Nat.le_of_ble_eq_true rfl) ⟨(Nat.le_of_ble_eq_true rfl), (Nat.le_of_ble_eq_true rfl)⟩ ⟨rfl, rfl⟩ ⟨(by show _ ≤ 200; omega), (by show _ ≤ 1200; omega)⟩ ?_
      rw [tells0]
      refine V_icmp_ge hC 79 kL_told_39 (by decide) (fun h39 => absurd h39 (cnt_lt hI.hc4.1 hk)) (fun h39 => ?_)
      refine V_iconst hC (0) kL_told_42 (by decide) ?_
      refine V_istore hC [some _, some _, none, some _, some _] kL_told_43 rfl (Nat.le_of_ble_eq_true rfl) ?_
      refine V_loopC (9) (fun j => 10 + 10 * k + 1 + j) (fun j => 6 * (10 + 10 * k + 1 + j)) (fun j => [some (vR (some (5, 0, x))), some (vL (hN (fun j => R_lightOf g (nI k) (nI j)) (F_to2 g k) j)), none, some (vI (nI k)), some (vI (nI j))]) rfl ⟨(by omega), (by omega)⟩ ?_ (fun j hj ihj => ?_)
      · refine V_iload hC kL_told_45 rfl ?_
        refine V_bipush hC (9) kL_told_47 (by decide) ?_
        refine V_icmp_ge hC 73 kL_told_49 (by decide) (fun h49 => ?_) (fun h49 => absurd h49 (not_not_intro (Int32.le_refl _)))
        refine V_iinc hC (_ + 1) [some _, some _, none, some _, some _] kL_told_73 rfl rfl rfl (Nat.le_of_ble_eq_true rfl) ?_
        refine V_goto hC 33 kL_told_76 (by decide) ?_
        refine V_drop 4 [_, _, _, _, none] rfl ?_
        refine V_wd ⟨by omega, by omega⟩ (V_eq ?_ rfl ihk)
        rw [← nI_succ' k]
        rfl
      · refine V_iload hC kL_told_45 rfl ?_
        refine V_bipush hC (9) kL_told_47 (by decide) ?_
        refine V_icmp_ge hC 73 kL_told_49 (by decide) (fun h49 => absurd h49 (nI_ge' hj (by decide))) (fun h49 => ?_)
        refine V_ldc2 hC lcL_10 kL_told_52 ?_
        refine V_lload_n hC kL_told_55 rfl ?_
        refine V_lmul hC kL_told_56 ?_
        refine V_aload_n hC kL_told_57 rfl ?_
        refine V_iload_n hC kL_told_58 rfl ?_
        refine V_iload hC kL_told_59 rfl ?_
        refine V_cVf hC hX.1 (cf_lightOf hWr hl0 (nI k) (nI j) hR hI) (fun _ _ h => h.1) (Kl_0 hI hk hj) mkX5_lightOf lxL_18 kL_told_61 (Nat.le_of_ble_eq_true rfl) rfl rfl rfl (Nat.le_of_ble_eq_true rfl) ⟨(Nat.le_of_ble_eq_true rfl), (Nat.le_of_ble_eq_true rfl)⟩ ⟨rfl, rfl⟩ ⟨(by show _ ≤ 200; omega), (by show _ ≤ 1200; omega)⟩ ?_
        refine V_i2l hC kL_told_64 ?_
        refine V_ladd hC kL_told_65 ?_
        refine V_lstore_n hC [some _, some _, none, some _, some _] kL_told_66 rfl (Nat.le_of_ble_eq_true rfl) ?_
        refine V_iinc hC (_ + 1) [some _, some _, none, some _, some _] kL_told_67 rfl rfl rfl (Nat.le_of_ble_eq_true rfl) ?_
        refine V_goto hC 45 kL_told_70 (by decide) ?_
        refine V_wd ⟨by omega, by omega⟩ (V_eq ?_ rfl ihj)
        rw [← nI_succ' j]
        rfl
  · refine V_iload_n hC kL_told_6 rfl ?_
    refine V_bipush hC (10) kL_told_7 (by decide) ?_
    refine V_icmp_ge hC 31 kL_told_9 (by decide) (fun h9 => absurd h9 (nI_ge' hi (by decide))) (fun h9 => ?_)
    refine V_ldc2 hC lcL_10 kL_told_12 ?_
    refine V_lload_n hC kL_told_15 rfl ?_
    refine V_lmul hC kL_told_16 ?_
    refine V_aload_n hC kL_told_17 rfl ?_
    refine V_iload_n hC kL_told_18 rfl ?_
    refine V_cVf hC hX.1 (cf_about hWr hl0 (nI i) hR hI) (fun _ _ h => h.1) (Ka_0 hi) mkX5_about lxL_12 kL_told_19 (Nat.le_of_ble_eq_true rfl) rfl rfl rfl (Nat.le_of_ble_eq_true rfl) ⟨(Nat.le_of_ble_eq_true rfl), (Nat.le_of_ble_eq_true rfl)⟩ ⟨rfl, rfl⟩ ⟨(by show _ ≤ 200; omega), (by show _ ≤ 1200; omega)⟩ ?_
    refine V_i2l hC kL_told_22 ?_
    refine V_ladd hC kL_told_23 ?_
    refine V_lstore_n hC [some _, some _, none, some _, none] kL_told_24 rfl (Nat.le_of_ble_eq_true rfl) ?_
    refine V_iinc hC (_ + 1) [some _, some _, none, some _, none] kL_told_25 rfl rfl rfl (Nat.le_of_ble_eq_true rfl) ?_
    refine V_goto hC 6 kL_told_28 (by decide) ?_
    refine V_wd ⟨by omega, by omega⟩ (V_eq ?_ rfl ihi)
    rw [← nI_succ' i]
    rfl
