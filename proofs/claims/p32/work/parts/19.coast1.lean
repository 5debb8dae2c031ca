-- HOW cl_isPlace fI
-- HOW cl_isSpeed fI
-- HOW cl_isStrength fI
-- HOW cl_isTickCount fI
-- HOW cl_isSetting fI
-- HOW cl_isSlot fI
-- HOW cl_isSettingValue fI
-- HOW cl_shown fI
-- HOW cl_lbegin fV
-- HOW cl_lcopy fV
-- HOW cl_bcopy fV
-- HOW cl_lnum fI
-- HOW cl_bnum fI
-- HOW cl_bright fI
-- HOW cl_worth fI
-- HOW cl_bitCount fI
-- HOW cl_servedCount fI
-- HOW cl_takesHandedOn fI
-- HOW cl_takesOthers fI
-- HOW cl_bbegin fV
-- HOW cl_move fV
-- HOW cl_wishFor fV
-- HOW cl_lightR fR
-- HOW cl_lightN fR
-- HOW cl_boatR fR
-- HOW cl_boatN fR
-- HOW cl_setR fI
-- HOW cl_lightAt fR
-- HOW cl_lightAtNo fR
-- HOW cl_boatAt fR
-- HOW cl_boatAtNo fR
-- HOW cl_settingOf fI
-- HOW cl_servedBoats fI
-- HOW cl_talkingBoats fI
-- HOW cl_numberOf fI
-- HOW cl_brightest fI
-- HOW cl_isDark fI
-- HOW cl_freePlaces fI
/-! the class: a coast, what there is -/
def mtX1_lightAt : Mt := (yX1_lightAt, cX1_lightAt, 2, (some (.object "LanternBoats$Light")), 0, 0, 0, 0)
theorem kX1_lightAt_0 : Dk mtX1_lightAt 0 (.iload_n 1) 1 1 := ⟨by decide +kernel, rfl⟩
theorem kX1_lightAt_1 : Dk mtX1_lightAt 1 (.ifCond .lt 29) 3 4 := ⟨by decide +kernel, rfl⟩
theorem kX1_lightAt_4 : Dk mtX1_lightAt 4 (.iload_n 1) 1 5 := ⟨by decide +kernel, rfl⟩
theorem kX1_lightAt_5 : Dk mtX1_lightAt 5 (.aload_n 0) 1 6 := ⟨by decide +kernel, rfl⟩
theorem kX1_lightAt_6 : Dk mtX1_lightAt 6 (.getfield 37) 3 9 := ⟨by decide +kernel, rfl⟩
theorem kX1_lightAt_9 : Dk mtX1_lightAt 9 (.if_icmp .ge 21) 3 12 := ⟨by decide +kernel, rfl⟩
theorem kX1_lightAt_12 : Dk mtX1_lightAt 12 (.iload_n 1) 1 13 := ⟨by decide +kernel, rfl⟩
theorem kX1_lightAt_13 : Dk mtX1_lightAt 13 (.aload_n 0) 1 14 := ⟨by decide +kernel, rfl⟩
theorem kX1_lightAt_14 : Dk mtX1_lightAt 14 (.getfield 11) 3 17 := ⟨by decide +kernel, rfl⟩
theorem kX1_lightAt_17 : Dk mtX1_lightAt 17 (.arraylength) 1 18 := ⟨by decide +kernel, rfl⟩
theorem kX1_lightAt_18 : Dk mtX1_lightAt 18 (.if_icmp .ge 12) 3 21 := ⟨by decide +kernel, rfl⟩
theorem kX1_lightAt_21 : Dk mtX1_lightAt 21 (.aload_n 0) 1 22 := ⟨by decide +kernel, rfl⟩
theorem kX1_lightAt_22 : Dk mtX1_lightAt 22 (.getfield 11) 3 25 := ⟨by decide +kernel, rfl⟩
theorem kX1_lightAt_25 : Dk mtX1_lightAt 25 (.iload_n 1) 1 26 := ⟨by decide +kernel, rfl⟩
theorem kX1_lightAt_26 : Dk mtX1_lightAt 26 (.aaload) 1 27 := ⟨by decide +kernel, rfl⟩
theorem kX1_lightAt_27 : Dk mtX1_lightAt 27 (.goto 4) 3 30 := ⟨by decide +kernel, rfl⟩
theorem kX1_lightAt_30 : Dk mtX1_lightAt 30 (.aconst_null) 1 31 := ⟨by decide +kernel, rfl⟩
theorem kX1_lightAt_31 : Dk mtX1_lightAt 31 (.areturn) 1 32 := ⟨by decide +kernel, rfl⟩
theorem lfX1_37 : LkF RX1 37 1 3 := Or.inl (by decide +kernel)
theorem lfX1_11 : LkF RX1 11 1 0 := Or.inl (by decide +kernel)
set_option maxHeartbeats 4000000 in
set_option maxRecDepth 100000 in
theorem cl_lightAt {l : Launch} {w : Wd} {sg : Sg} (hWr : Wr w) {c n : Nat} {a : Int32} (ea : a = nI n) (hn : n < 6) (hlt : a < sg c 3) : M l mtX1_lightAt w [vR (some (1, 0, c)), vI a] sg (fR (some (2, 0, c + 2 + n)) sg) := by
  refine M_of [some (vR (some (1, 0, c))), some (vI a)] rfl (Nat.le_of_ble_eq_true rfl) (by decide +kernel) ?_
  intro p_ e_ s_ m_ args_ below_ meth_ c_ hC hO
  subst ea
  refine V_iload_n hC kX1_lightAt_0 rfl ?_
  refine V_if_lt hC 30 kX1_lightAt_1 (by decide) (fun h1 => absurd h1 (Int32.not_lt.mpr (nI_pos' (by omega)))) (fun h1 => ?_)
  refine V_iload_n hC kX1_lightAt_4 rfl ?_
  refine V_aload_n hC kX1_lightAt_5 rfl ?_
  refine V_getI hC 1 3 lfX1_37 kX1_lightAt_6 (Nat.le_of_ble_eq_true rfl) (Nat.le_of_ble_eq_true rfl) rfl ?_
  refine V_icmp_ge hC 30 kX1_lightAt_9 (by decide) (fun h9 => absurd h9 (Int32.not_le.mpr hlt)) (fun h9 => ?_)
  refine V_iload_n hC kX1_lightAt_12 rfl ?_
  refine V_aload_n hC kX1_lightAt_13 rfl ?_
  refine V_getR hC hWr 1 0 lfX1_11 kX1_lightAt_14 (Nat.le_of_ble_eq_true rfl) (Nat.le_of_ble_eq_true rfl) rfl ?_
  refine V_alen hC _ kX1_lightAt_17 ⟨(Nat.le_of_ble_eq_true rfl), (Nat.le_of_ble_eq_true rfl)⟩ rfl ?_
  refine V_icmp_ge hC 30 kX1_lightAt_18 (by decide) (fun h18 => absurd h18 (nI_ge hn (by decide))) (fun h18 => ?_)
  refine V_aload_n hC kX1_lightAt_21 rfl ?_
  refine V_getR hC hWr 1 0 lfX1_11 kX1_lightAt_22 (Nat.le_of_ble_eq_true rfl) (Nat.le_of_ble_eq_true rfl) rfl ?_
  refine V_iload_n hC kX1_lightAt_25 rfl ?_
  refine V_aald hC hWr kX1_lightAt_26 ⟨(Nat.le_of_ble_eq_true rfl), (Nat.le_of_ble_eq_true rfl)⟩ (vp_in_nI hn (by decide)) (by rw [nI_clamp (by omega)]; rfl) ?_
  refine V_goto hC 31 kX1_lightAt_27 (by decide) ?_
  refine V_aret hC rfl (Or.inl ⟨_, rfl⟩) kX1_lightAt_31 ?_
  refine ⟨?_, by with_reducible rfl⟩
  rw [show c + 1 + 1 + n = c + 2 + n by omega]
set_option maxHeartbeats 4000000 in
set_option maxRecDepth 100000 in
theorem cl_lightAtNo {l : Launch} {w : Wd} {sg : Sg} (hWr : Wr w) {c : Nat} (a : Int32) (hb : a < 0 ∨ sg c 3 ≤ a) : M l mtX1_lightAt w [vR (some (1, 0, c)), vI a] sg (fR none sg) := by
  refine M_of [some (vR (some (1, 0, c))), some (vI a)] rfl (Nat.le_of_ble_eq_true rfl) (by decide +kernel) ?_
  intro p_ e_ s_ m_ args_ below_ meth_ c_ hC hO
  refine V_iload_n hC kX1_lightAt_0 rfl ?_
  refine V_if_lt hC 30 kX1_lightAt_1 (by decide) (fun h1 => ?_) (fun h1 => ?_)
  · refine V_null hC kX1_lightAt_30 ?_
    refine V_aret hC rfl (Or.inl ⟨_, rfl⟩) kX1_lightAt_31 ?_
    exact ⟨by with_reducible rfl, by with_reducible rfl⟩
  · refine V_iload_n hC kX1_lightAt_4 rfl ?_
    refine V_aload_n hC kX1_lightAt_5 rfl ?_
    refine V_getI hC 1 3 lfX1_37 kX1_lightAt_6 (Nat.le_of_ble_eq_true rfl) (Nat.le_of_ble_eq_true rfl) rfl ?_
    refine V_icmp_ge hC 30 kX1_lightAt_9 (by decide) (fun h9 => ?_) (fun h9 => absurd h9 (not_not_intro (hb.resolve_left h1)))
    refine V_null hC kX1_lightAt_30 ?_
    refine V_aret hC rfl (Or.inl ⟨_, rfl⟩) kX1_lightAt_31 ?_
    exact ⟨by with_reducible rfl, by with_reducible rfl⟩
def mtX1_boatAt : Mt := (yX1_boatAt, cX1_boatAt, 2, (some (.object "LanternBoats$Boat")), 0, 0, 0, 0)
theorem kX1_boatAt_0 : Dk mtX1_boatAt 0 (.iload_n 1) 1 1 := ⟨by decide +kernel, rfl⟩
theorem kX1_boatAt_1 : Dk mtX1_boatAt 1 (.ifCond .lt 29) 3 4 := ⟨by decide +kernel, rfl⟩
theorem kX1_boatAt_4 : Dk mtX1_boatAt 4 (.iload_n 1) 1 5 := ⟨by decide +kernel, rfl⟩
theorem kX1_boatAt_5 : Dk mtX1_boatAt 5 (.aload_n 0) 1 6 := ⟨by decide +kernel, rfl⟩
theorem kX1_boatAt_6 : Dk mtX1_boatAt 6 (.getfield 41) 3 9 := ⟨by decide +kernel, rfl⟩
theorem kX1_boatAt_9 : Dk mtX1_boatAt 9 (.if_icmp .ge 21) 3 12 := ⟨by decide +kernel, rfl⟩
theorem kX1_boatAt_12 : Dk mtX1_boatAt 12 (.iload_n 1) 1 13 := ⟨by decide +kernel, rfl⟩
theorem kX1_boatAt_13 : Dk mtX1_boatAt 13 (.aload_n 0) 1 14 := ⟨by decide +kernel, rfl⟩
theorem kX1_boatAt_14 : Dk mtX1_boatAt 14 (.getfield 20) 3 17 := ⟨by decide +kernel, rfl⟩
theorem kX1_boatAt_17 : Dk mtX1_boatAt 17 (.arraylength) 1 18 := ⟨by decide +kernel, rfl⟩
theorem kX1_boatAt_18 : Dk mtX1_boatAt 18 (.if_icmp .ge 12) 3 21 := ⟨by decide +kernel, rfl⟩
theorem kX1_boatAt_21 : Dk mtX1_boatAt 21 (.aload_n 0) 1 22 := ⟨by decide +kernel, rfl⟩
theorem kX1_boatAt_22 : Dk mtX1_boatAt 22 (.getfield 20) 3 25 := ⟨by decide +kernel, rfl⟩
theorem kX1_boatAt_25 : Dk mtX1_boatAt 25 (.iload_n 1) 1 26 := ⟨by decide +kernel, rfl⟩
theorem kX1_boatAt_26 : Dk mtX1_boatAt 26 (.aaload) 1 27 := ⟨by decide +kernel, rfl⟩
theorem kX1_boatAt_27 : Dk mtX1_boatAt 27 (.goto 4) 3 30 := ⟨by decide +kernel, rfl⟩
theorem kX1_boatAt_30 : Dk mtX1_boatAt 30 (.aconst_null) 1 31 := ⟨by decide +kernel, rfl⟩
theorem kX1_boatAt_31 : Dk mtX1_boatAt 31 (.areturn) 1 32 := ⟨by decide +kernel, rfl⟩
theorem lfX1_41 : LkF RX1 41 1 4 := Or.inl (by decide +kernel)
theorem lfX1_20 : LkF RX1 20 1 1 := Or.inl (by decide +kernel)
set_option maxHeartbeats 4000000 in
set_option maxRecDepth 100000 in
theorem cl_boatAt {l : Launch} {w : Wd} {sg : Sg} (hWr : Wr w) {c n : Nat} {a : Int32} (ea : a = nI n) (hn : n < 8) (hlt : a < sg c 4) : M l mtX1_boatAt w [vR (some (1, 0, c)), vI a] sg (fR (some (0, 0, c + 9 + n)) sg) := by
  refine M_of [some (vR (some (1, 0, c))), some (vI a)] rfl (Nat.le_of_ble_eq_true rfl) (by decide +kernel) ?_
  intro p_ e_ s_ m_ args_ below_ meth_ c_ hC hO
  subst ea
  refine V_iload_n hC kX1_boatAt_0 rfl ?_
  refine V_if_lt hC 30 kX1_boatAt_1 (by decide) (fun h1 => absurd h1 (Int32.not_lt.mpr (nI_pos' (by omega)))) (fun h1 => ?_)
  refine V_iload_n hC kX1_boatAt_4 rfl ?_
  refine V_aload_n hC kX1_boatAt_5 rfl ?_
  refine V_getI hC 1 4 lfX1_41 kX1_boatAt_6 (Nat.le_of_ble_eq_true rfl) (Nat.le_of_ble_eq_true rfl) rfl ?_
  refine V_icmp_ge hC 30 kX1_boatAt_9 (by decide) (fun h9 => absurd h9 (Int32.not_le.mpr hlt)) (fun h9 => ?_)
  refine V_iload_n hC kX1_boatAt_12 rfl ?_
  refine V_aload_n hC kX1_boatAt_13 rfl ?_
  refine V_getR hC hWr 1 1 lfX1_20 kX1_boatAt_14 (Nat.le_of_ble_eq_true rfl) (Nat.le_of_ble_eq_true rfl) rfl ?_
  refine V_alen hC _ kX1_boatAt_17 ⟨(Nat.le_of_ble_eq_true rfl), (Nat.le_of_ble_eq_true rfl)⟩ rfl ?_
  refine V_icmp_ge hC 30 kX1_boatAt_18 (by decide) (fun h18 => absurd h18 (nI_ge hn (by decide))) (fun h18 => ?_)
  refine V_aload_n hC kX1_boatAt_21 rfl ?_
  refine V_getR hC hWr 1 1 lfX1_20 kX1_boatAt_22 (Nat.le_of_ble_eq_true rfl) (Nat.le_of_ble_eq_true rfl) rfl ?_
  refine V_iload_n hC kX1_boatAt_25 rfl ?_
  refine V_aald hC hWr kX1_boatAt_26 ⟨(Nat.le_of_ble_eq_true rfl), (Nat.le_of_ble_eq_true rfl)⟩ (vp_in_nI hn (by decide)) (by rw [nI_clamp (by omega)]; rfl) ?_
  refine V_goto hC 31 kX1_boatAt_27 (by decide) ?_
  refine V_aret hC rfl (Or.inl ⟨_, rfl⟩) kX1_boatAt_31 ?_
  refine ⟨?_, by with_reducible rfl⟩
  rw [show c + 8 + 1 + n = c + 9 + n by omega]
set_option maxHeartbeats 4000000 in
set_option maxRecDepth 100000 in
theorem cl_boatAtNo {l : Launch} {w : Wd} {sg : Sg} (hWr : Wr w) {c : Nat} (a : Int32) (hb : a < 0 ∨ sg c 4 ≤ a) : M l mtX1_boatAt w [vR (some (1, 0, c)), vI a] sg (fR none sg) := by
  refine M_of [some (vR (some (1, 0, c))), some (vI a)] rfl (Nat.le_of_ble_eq_true rfl) (by decide +kernel) ?_
  intro p_ e_ s_ m_ args_ below_ meth_ c_ hC hO
  refine V_iload_n hC kX1_boatAt_0 rfl ?_
  refine V_if_lt hC 30 kX1_boatAt_1 (by decide) (fun h1 => ?_) (fun h1 => ?_)
  · refine V_null hC kX1_boatAt_30 ?_
    refine V_aret hC rfl (Or.inl ⟨_, rfl⟩) kX1_boatAt_31 ?_
    exact ⟨by with_reducible rfl, by with_reducible rfl⟩
  · refine V_iload_n hC kX1_boatAt_4 rfl ?_
    refine V_aload_n hC kX1_boatAt_5 rfl ?_
    refine V_getI hC 1 4 lfX1_41 kX1_boatAt_6 (Nat.le_of_ble_eq_true rfl) (Nat.le_of_ble_eq_true rfl) rfl ?_
    refine V_icmp_ge hC 30 kX1_boatAt_9 (by decide) (fun h9 => ?_) (fun h9 => absurd h9 (not_not_intro (hb.resolve_left h1)))
    refine V_null hC kX1_boatAt_30 ?_
    refine V_aret hC rfl (Or.inl ⟨_, rfl⟩) kX1_boatAt_31 ?_
    exact ⟨by with_reducible rfl, by with_reducible rfl⟩
def mtX1_settingOf : Mt := (yX1_settingOf, cX1_settingOf, 2, (some .int), 0, 0, 0, 0)
theorem kX1_settingOf_0 : Dk mtX1_settingOf 0 (.iload_n 1) 1 1 := ⟨by decide +kernel, rfl⟩
theorem kX1_settingOf_1 : Dk mtX1_settingOf 1 (.ifCond .lt 21) 3 4 := ⟨by decide +kernel, rfl⟩
theorem kX1_settingOf_4 : Dk mtX1_settingOf 4 (.iload_n 1) 1 5 := ⟨by decide +kernel, rfl⟩
theorem kX1_settingOf_5 : Dk mtX1_settingOf 5 (.aload_n 0) 1 6 := ⟨by decide +kernel, rfl⟩
theorem kX1_settingOf_6 : Dk mtX1_settingOf 6 (.getfield 27) 3 9 := ⟨by decide +kernel, rfl⟩
theorem kX1_settingOf_9 : Dk mtX1_settingOf 9 (.arraylength) 1 10 := ⟨by decide +kernel, rfl⟩
theorem kX1_settingOf_10 : Dk mtX1_settingOf 10 (.if_icmp .ge 12) 3 13 := ⟨by decide +kernel, rfl⟩
theorem kX1_settingOf_13 : Dk mtX1_settingOf 13 (.aload_n 0) 1 14 := ⟨by decide +kernel, rfl⟩
theorem kX1_settingOf_14 : Dk mtX1_settingOf 14 (.getfield 27) 3 17 := ⟨by decide +kernel, rfl⟩
theorem kX1_settingOf_17 : Dk mtX1_settingOf 17 (.iload_n 1) 1 18 := ⟨by decide +kernel, rfl⟩
theorem kX1_settingOf_18 : Dk mtX1_settingOf 18 (.iaload) 1 19 := ⟨by decide +kernel, rfl⟩
theorem kX1_settingOf_19 : Dk mtX1_settingOf 19 (.goto 4) 3 22 := ⟨by decide +kernel, rfl⟩
theorem kX1_settingOf_23 : Dk mtX1_settingOf 23 (.ireturn) 1 24 := ⟨by decide +kernel, rfl⟩
theorem lfX1_27 : LkF RX1 27 1 2 := Or.inl (by decide +kernel)
set_option maxHeartbeats 4000000 in
set_option maxRecDepth 100000 in
theorem cl_settingOf {l : Launch} {w : Wd} {sg : Sg} (hWr : Wr w) {c j : Nat} {a : Int32} (hj : j < 4) (ea : a = nI j) : M l mtX1_settingOf w [vR (some (1, 0, c)), vI a] sg (fI (sg (c + 17) j) sg) := by
  refine M_of [some (vR (some (1, 0, c))), some (vI a)] rfl (Nat.le_of_ble_eq_true rfl) (by decide +kernel) ?_
  intro p_ e_ s_ m_ args_ below_ meth_ c_ hC hO
  subst ea
  refine V_iload_n hC kX1_settingOf_0 rfl ?_
  refine V_if_lt hC 22 kX1_settingOf_1 (by decide) (fun h1 => absurd h1 (Int32.not_lt.mpr (nI_pos' (by omega)))) (fun h1 => ?_)
  refine V_iload_n hC kX1_settingOf_4 rfl ?_
  refine V_aload_n hC kX1_settingOf_5 rfl ?_
  refine V_getR hC hWr 1 2 lfX1_27 kX1_settingOf_6 (Nat.le_of_ble_eq_true rfl) (Nat.le_of_ble_eq_true rfl) rfl ?_
  refine V_alen hC _ kX1_settingOf_9 ⟨(Nat.le_of_ble_eq_true rfl), (Nat.le_of_ble_eq_true rfl)⟩ rfl ?_
  refine V_icmp_ge hC 22 kX1_settingOf_10 (by decide) (fun h10 => absurd h10 (nI_ge hj (by decide))) (fun h10 => ?_)
  refine V_aload_n hC kX1_settingOf_13 rfl ?_
  refine V_getR hC hWr 1 2 lfX1_27 kX1_settingOf_14 (Nat.le_of_ble_eq_true rfl) (Nat.le_of_ble_eq_true rfl) rfl ?_
  refine V_iload_n hC kX1_settingOf_17 rfl ?_
  refine V_iald hC j (nI_clamp (by omega)) kX1_settingOf_18 (vp_in_nI hj (by decide)) ?_
  refine V_goto hC 23 kX1_settingOf_19 (by decide) ?_
  refine V_ireti hC rfl kX1_settingOf_23 ?_
  exact ⟨by with_reducible rfl, by with_reducible rfl⟩
theorem cl_lightR {l : Launch} {w : Wd} {sg : Sg} (hWr : Wr w) {c : Nat} {g : Gs} (hR : Rel sg c g) (hI : Inv g) {n : Nat} (hn : n < tn (g 4)) : M l mtX1_lightAt w [vR (some (1, 0, c)), vI (nI n)] sg (fR (some (2, 0, c + 2 + n)) sg) :=
  cl_lightAt hWr rfl (by have := hI.c4.1; omega) (by rw [hR.c3, hI.c4.2]; exact (nI_ltI (by have := hI.c4.1; omega) (by have := hI.c4.1; omega)).mpr hn)
theorem cl_lightN {l : Launch} {w : Wd} {sg : Sg} (hWr : Wr w) {c : Nat} {g : Gs} (hR : Rel sg c g) {a : Int32} (hb : a < 0 ∨ g 4 ≤ a) : M l mtX1_lightAt w [vR (some (1, 0, c)), vI a] sg (fR none sg) :=
  cl_lightAtNo hWr a (by rw [hR.c3]; exact hb)
theorem cl_boatR {l : Launch} {w : Wd} {sg : Sg} (hWr : Wr w) {c : Nat} {g : Gs} (hR : Rel sg c g) (hI : Inv g) {n : Nat} (hn : n < tn (g 5)) : M l mtX1_boatAt w [vR (some (1, 0, c)), vI (nI n)] sg (fR (some (0, 0, c + 9 + n)) sg) :=
  cl_boatAt hWr rfl (by have := hI.c5.1; omega) (by rw [hR.c4, hI.c5.2]; exact (nI_ltI (by have := hI.c5.1; omega) (by have := hI.c5.1; omega)).mpr hn)
theorem cl_boatN {l : Launch} {w : Wd} {sg : Sg} (hWr : Wr w) {c : Nat} {g : Gs} (hR : Rel sg c g) {a : Int32} (hb : a < 0 ∨ g 5 ≤ a) : M l mtX1_boatAt w [vR (some (1, 0, c)), vI a] sg (fR none sg) :=
  cl_boatAtNo hWr a (by rw [hR.c4]; exact hb)
theorem cl_setR {l : Launch} {w : Wd} {sg : Sg} (hWr : Wr w) {c : Nat} {g : Gs} (hR : Rel sg c g) {j : Nat} {a : Int32} (hj : j < 4) (ea : a = nI j) : M l mtX1_settingOf w [vR (some (1, 0, c)), vI a] sg (fI (g j) sg) := by
  have := cl_settingOf (l := l) (w := w) (sg := sg) hWr (c := c) hj ea
  rw [hR.2.1 j hj] at this
  exact this
theorem by_pos {g : Gs} (h : Inv g) {n : Nat} (hn : n < tn (g 5)) : gB g (nI n) 2 - 1 = -1 ↔ ¬ 0 < gB g (nI n) 2 := by
  have h5 := h.c5.1
  obtain ⟨b1, b2, ⟨b3, b3'⟩, b4, b5, b6⟩ := h.2.2.2.1 n hn
  rw [gB_2 g (by omega)]
  have z : (0 : Int32).toInt = 0 := rfl
  rw [Int32.lt_iff_toInt_lt, z]
  constructor
  · intro q
    have : g (60 + 10 * n + 2) = 0 := by grind
    rw [this]
    decide
  · intro q
    have : g (60 + 10 * n + 2) = 0 := Int32.toInt_inj.mp (by rw [z]; omega)
    rw [this]
    rfl
def mtX1_servedBoats : Mt := (yX1_servedBoats, cX1_servedBoats, 4, (some .int), 1, 21, 0, 0)
theorem kX1_servedBoats_0 : Dk mtX1_servedBoats 0 (.iconst 0) 1 1 := ⟨by decide +kernel, rfl⟩
theorem kX1_servedBoats_1 : Dk mtX1_servedBoats 1 (.istore_n 1) 1 2 := ⟨by decide +kernel, rfl⟩
theorem kX1_servedBoats_2 : Dk mtX1_servedBoats 2 (.iconst 0) 1 3 := ⟨by decide +kernel, rfl⟩
theorem kX1_servedBoats_3 : Dk mtX1_servedBoats 3 (.istore_n 2) 1 4 := ⟨by decide +kernel, rfl⟩
theorem kX1_servedBoats_4 : Dk mtX1_servedBoats 4 (.iload_n 2) 1 5 := ⟨by decide +kernel, rfl⟩
theorem kX1_servedBoats_5 : Dk mtX1_servedBoats 5 (.aload_n 0) 1 6 := ⟨by decide +kernel, rfl⟩
theorem kX1_servedBoats_6 : Dk mtX1_servedBoats 6 (.getfield 41) 3 9 := ⟨by decide +kernel, rfl⟩
theorem kX1_servedBoats_9 : Dk mtX1_servedBoats 9 (.if_icmp .ge 30) 3 12 := ⟨by decide +kernel, rfl⟩
theorem kX1_servedBoats_12 : Dk mtX1_servedBoats 12 (.aload_n 0) 1 13 := ⟨by decide +kernel, rfl⟩
theorem kX1_servedBoats_13 : Dk mtX1_servedBoats 13 (.iload_n 2) 1 14 := ⟨by decide +kernel, rfl⟩
theorem kX1_servedBoats_14 : Dk mtX1_servedBoats 14 (.invokevirtual 70) 3 17 := ⟨by decide +kernel, rfl⟩
theorem kX1_servedBoats_17 : Dk mtX1_servedBoats 17 (.astore_n 3) 1 18 := ⟨by decide +kernel, rfl⟩
theorem kX1_servedBoats_18 : Dk mtX1_servedBoats 18 (.aload_n 3) 1 19 := ⟨by decide +kernel, rfl⟩
theorem kX1_servedBoats_19 : Dk mtX1_servedBoats 19 (.ifnull 14) 3 22 := ⟨by decide +kernel, rfl⟩
theorem kX1_servedBoats_22 : Dk mtX1_servedBoats 22 (.aload_n 3) 1 23 := ⟨by decide +kernel, rfl⟩
theorem kX1_servedBoats_23 : Dk mtX1_servedBoats 23 (.getfield 88) 3 26 := ⟨by decide +kernel, rfl⟩
theorem kX1_servedBoats_26 : Dk mtX1_servedBoats 26 (.iconst (-1)) 1 27 := ⟨by decide +kernel, rfl⟩
theorem kX1_servedBoats_27 : Dk mtX1_servedBoats 27 (.if_icmp .eq 6) 3 30 := ⟨by decide +kernel, rfl⟩
theorem kX1_servedBoats_30 : Dk mtX1_servedBoats 30 (.iinc 1 1) 3 33 := ⟨by decide +kernel, rfl⟩
theorem kX1_servedBoats_33 : Dk mtX1_servedBoats 33 (.iinc 2 1) 3 36 := ⟨by decide +kernel, rfl⟩
theorem kX1_servedBoats_36 : Dk mtX1_servedBoats 36 (.goto (-32)) 3 39 := ⟨by decide +kernel, rfl⟩
theorem kX1_servedBoats_39 : Dk mtX1_servedBoats 39 (.iload_n 1) 1 40 := ⟨by decide +kernel, rfl⟩
theorem kX1_servedBoats_40 : Dk mtX1_servedBoats 40 (.ireturn) 1 41 := ⟨by decide +kernel, rfl⟩
theorem lmX1_70 : LkM RX1 70 mtX1_boatAt := Or.inl (by decide +kernel)
theorem mkX1_boatAt : MkV mtX1_boatAt 1 := ⟨List.mem_of_getElem? (i := 318) (by decide +kernel), by decide +kernel, by decide +kernel, by decide +kernel, ⟨by decide +kernel, by decide +kernel, by decide +kernel⟩⟩
theorem lfX1_88 : LkF RX1 88 0 3 := Or.inr (by decide +kernel)
set_option maxHeartbeats 4000000 in
set_option maxRecDepth 100000 in
theorem cl_servedBoats {l : Launch} {w : Wd} {sg : Sg} (hWr : Wr w) {c : Nat} {g : Gs} (hR : Rel sg c g) (hI : Inv g) : M l mtX1_servedBoats w [vR (some (1, 0, c))] sg (fI (F_thatN g 0 (tn (g 5))) sg) := by
  refine M_of [some (vR (some (1, 0, c))), none, none, none] rfl (Nat.le_of_ble_eq_true rfl) (by decide +kernel) ?_
  intro p_ e_ s_ m_ args_ below_ meth_ c_ hC hO
  refine V_iconst hC (0) kX1_servedBoats_0 (by decide) ?_
  refine V_istore_n hC [some _, some _, none, none] kX1_servedBoats_1 rfl (Nat.le_of_ble_eq_true rfl) ?_
  refine V_iconst hC (0) kX1_servedBoats_2 (by decide) ?_
  refine V_istore_n hC [some _, some _, some _, none] kX1_servedBoats_3 rfl (Nat.le_of_ble_eq_true rfl) ?_
  refine V_loop (tn (g 5)) (fun i => [some (vR (some (1, 0, c))), some (vI (F_thatN g 0 i)), some (vI (nI i)), none]) (fun i => sg) rfl rfl ?_ (fun i hi ihi => ?_)
  · refine V_iload_n hC kX1_servedBoats_4 rfl ?_
    refine V_aload_n hC kX1_servedBoats_5 rfl ?_
    refine V_getI hC 1 4 lfX1_41 kX1_servedBoats_6 (Nat.le_of_ble_eq_true rfl) (Nat.le_of_ble_eq_true rfl) rfl ?_
    refine V_icmp_ge hC 39 kX1_servedBoats_9 (by decide) (fun h9 => ?_) (fun h9 => absurd h9 (not_not_intro (by rw [hR.c4]; exact cnt_le hI.hc5.1)))
    refine V_iload_n hC kX1_servedBoats_39 rfl ?_
    refine V_ireti hC rfl kX1_servedBoats_40 ?_
    exact ⟨by with_reducible rfl, by with_reducible rfl⟩
  · refine V_iload_n hC kX1_servedBoats_4 rfl ?_
    refine V_aload_n hC kX1_servedBoats_5 rfl ?_
    refine V_getI hC 1 4 lfX1_41 kX1_servedBoats_6 (Nat.le_of_ble_eq_true rfl) (Nat.le_of_ble_eq_true rfl) rfl ?_
    refine V_icmp_ge hC 39 kX1_servedBoats_9 (by decide) (fun h9 => absurd h9 (by rw [hR.c4]; exact cnt_lt hI.hc5.1 hi)) (fun h9 => ?_)
    refine V_aload_n hC kX1_servedBoats_12 rfl ?_
    refine V_iload_n hC kX1_servedBoats_13 rfl ?_
    refine V_cV_fR hC (cl_boatR hWr hR hI hi) mkX1_boatAt lmX1_70 kX1_servedBoats_14 (Nat.le_of_ble_eq_true rfl) rfl rfl rfl (Nat.le_of_ble_eq_true rfl) ⟨(Nat.le_of_ble_eq_true rfl), (Nat.le_of_ble_eq_true rfl)⟩ ⟨rfl, rfl⟩ ⟨(Nat.le_of_ble_eq_true rfl), (Nat.le_of_ble_eq_true rfl)⟩ ?_
    refine V_astore_n hC [some _, some _, some _, some _] kX1_servedBoats_17 rfl (Nat.le_of_ble_eq_true rfl) ?_
    refine V_aload_n hC kX1_servedBoats_18 rfl ?_
    refine V_ifnull hC 33 kX1_servedBoats_19 (by decide) (fun hq => by cases hq) (fun _ _ => ?_)
    refine V_aload_n hC kX1_servedBoats_22 rfl ?_
    refine V_getI hC 0 3 lfX1_88 kX1_servedBoats_23 (Nat.le_of_ble_eq_true rfl) (Nat.le_of_ble_eq_true rfl) rfl ?_
    refine V_iconst hC (-1) kX1_servedBoats_26 (by decide) ?_
    refine V_icmp_eq hC 33 kX1_servedBoats_27 (by decide) (fun h27 => ?_) (fun h27 => ?_)
    · refine V_iinc hC (_ + 1) [some _, some _, some _, some _] kX1_servedBoats_33 rfl rfl rfl (Nat.le_of_ble_eq_true rfl) ?_
      refine V_goto hC 4 kX1_servedBoats_36 (by decide) ?_
      rw [hR.b3 hI hi] at h27
      refine V_drop 3 [_, _, _, none] rfl ?_
      refine V_eq ?_ rfl ihi
      rw [nI_succ, F_thatN, if_pos (by decide)]
      rw [b01_f ((by_pos hI hi).mp h27), Int32.add_zero]
    · refine V_iinc hC (_ + 1) [some _, some _, some _, some _] kX1_servedBoats_30 rfl rfl rfl (Nat.le_of_ble_eq_true rfl) ?_
      refine V_iinc hC (_ + 1) [some _, some _, some _, some _] kX1_servedBoats_33 rfl rfl rfl (Nat.le_of_ble_eq_true rfl) ?_
      refine V_goto hC 4 kX1_servedBoats_36 (by decide) ?_
      rw [hR.b3 hI hi] at h27
      refine V_drop 3 [_, _, _, none] rfl ?_
      refine V_eq ?_ rfl ihi
      rw [nI_succ, F_thatN, if_pos (by decide)]
      rw [b01_t (Classical.not_not.mp (fun z => h27 ((by_pos hI hi).mpr z)))]
def mtX1_talkingBoats : Mt := (yX1_talkingBoats, cX1_talkingBoats, 4, (some .int), 1, 21, 0, 0)
theorem kX1_talkingBoats_0 : Dk mtX1_talkingBoats 0 (.iconst 0) 1 1 := ⟨by decide +kernel, rfl⟩
theorem kX1_talkingBoats_1 : Dk mtX1_talkingBoats 1 (.istore_n 1) 1 2 := ⟨by decide +kernel, rfl⟩
theorem kX1_talkingBoats_2 : Dk mtX1_talkingBoats 2 (.iconst 0) 1 3 := ⟨by decide +kernel, rfl⟩
theorem kX1_talkingBoats_3 : Dk mtX1_talkingBoats 3 (.istore_n 2) 1 4 := ⟨by decide +kernel, rfl⟩
theorem kX1_talkingBoats_4 : Dk mtX1_talkingBoats 4 (.iload_n 2) 1 5 := ⟨by decide +kernel, rfl⟩
theorem kX1_talkingBoats_5 : Dk mtX1_talkingBoats 5 (.aload_n 0) 1 6 := ⟨by decide +kernel, rfl⟩
theorem kX1_talkingBoats_6 : Dk mtX1_talkingBoats 6 (.getfield 41) 3 9 := ⟨by decide +kernel, rfl⟩
theorem kX1_talkingBoats_9 : Dk mtX1_talkingBoats 9 (.if_icmp .ge 29) 3 12 := ⟨by decide +kernel, rfl⟩
theorem kX1_talkingBoats_12 : Dk mtX1_talkingBoats 12 (.aload_n 0) 1 13 := ⟨by decide +kernel, rfl⟩
theorem kX1_talkingBoats_13 : Dk mtX1_talkingBoats 13 (.iload_n 2) 1 14 := ⟨by decide +kernel, rfl⟩
theorem kX1_talkingBoats_14 : Dk mtX1_talkingBoats 14 (.invokevirtual 70) 3 17 := ⟨by decide +kernel, rfl⟩
theorem kX1_talkingBoats_17 : Dk mtX1_talkingBoats 17 (.astore_n 3) 1 18 := ⟨by decide +kernel, rfl⟩
theorem kX1_talkingBoats_18 : Dk mtX1_talkingBoats 18 (.aload_n 3) 1 19 := ⟨by decide +kernel, rfl⟩
theorem kX1_talkingBoats_19 : Dk mtX1_talkingBoats 19 (.ifnull 13) 3 22 := ⟨by decide +kernel, rfl⟩
theorem kX1_talkingBoats_22 : Dk mtX1_talkingBoats 22 (.aload_n 3) 1 23 := ⟨by decide +kernel, rfl⟩
theorem kX1_talkingBoats_23 : Dk mtX1_talkingBoats 23 (.getfield 91) 3 26 := ⟨by decide +kernel, rfl⟩
theorem kX1_talkingBoats_26 : Dk mtX1_talkingBoats 26 (.ifCond .le 6) 3 29 := ⟨by decide +kernel, rfl⟩
theorem kX1_talkingBoats_29 : Dk mtX1_talkingBoats 29 (.iinc 1 1) 3 32 := ⟨by decide +kernel, rfl⟩
theorem kX1_talkingBoats_32 : Dk mtX1_talkingBoats 32 (.iinc 2 1) 3 35 := ⟨by decide +kernel, rfl⟩
theorem kX1_talkingBoats_35 : Dk mtX1_talkingBoats 35 (.goto (-31)) 3 38 := ⟨by decide +kernel, rfl⟩
theorem kX1_talkingBoats_38 : Dk mtX1_talkingBoats 38 (.iload_n 1) 1 39 := ⟨by decide +kernel, rfl⟩
theorem kX1_talkingBoats_39 : Dk mtX1_talkingBoats 39 (.ireturn) 1 40 := ⟨by decide +kernel, rfl⟩
theorem lfX1_91 : LkF RX1 91 0 4 := Or.inr (by decide +kernel)
set_option maxHeartbeats 4000000 in
set_option maxRecDepth 100000 in
theorem cl_talkingBoats {l : Launch} {w : Wd} {sg : Sg} (hWr : Wr w) {c : Nat} {g : Gs} (hR : Rel sg c g) (hI : Inv g) : M l mtX1_talkingBoats w [vR (some (1, 0, c))] sg (fI (F_thatN g 1 (tn (g 5))) sg) := by
  refine M_of [some (vR (some (1, 0, c))), none, none, none] rfl (Nat.le_of_ble_eq_true rfl) (by decide +kernel) ?_
  intro p_ e_ s_ m_ args_ below_ meth_ c_ hC hO
  refine V_iconst hC (0) kX1_talkingBoats_0 (by decide) ?_
  refine V_istore_n hC [some _, some _, none, none] kX1_talkingBoats_1 rfl (Nat.le_of_ble_eq_true rfl) ?_
  refine V_iconst hC (0) kX1_talkingBoats_2 (by decide) ?_
  refine V_istore_n hC [some _, some _, some _, none] kX1_talkingBoats_3 rfl (Nat.le_of_ble_eq_true rfl) ?_
  refine V_loop (tn (g 5)) (fun i => [some (vR (some (1, 0, c))), some (vI (F_thatN g 1 i)), some (vI (nI i)), none]) (fun i => sg) rfl rfl ?_ (fun i hi ihi => ?_)
  · refine V_iload_n hC kX1_talkingBoats_4 rfl ?_
    refine V_aload_n hC kX1_talkingBoats_5 rfl ?_
    refine V_getI hC 1 4 lfX1_41 kX1_talkingBoats_6 (Nat.le_of_ble_eq_true rfl) (Nat.le_of_ble_eq_true rfl) rfl ?_
    refine V_icmp_ge hC 38 kX1_talkingBoats_9 (by decide) (fun h9 => ?_) (fun h9 => absurd h9 (not_not_intro (by rw [hR.c4]; exact cnt_le hI.hc5.1)))
    refine V_iload_n hC kX1_talkingBoats_38 rfl ?_
    refine V_ireti hC rfl kX1_talkingBoats_39 ?_
    exact ⟨by with_reducible rfl, by with_reducible rfl⟩
  · refine V_iload_n hC kX1_talkingBoats_4 rfl ?_
    refine V_aload_n hC kX1_talkingBoats_5 rfl ?_
    refine V_getI hC 1 4 lfX1_41 kX1_talkingBoats_6 (Nat.le_of_ble_eq_true rfl) (Nat.le_of_ble_eq_true rfl) rfl ?_
    refine V_icmp_ge hC 38 kX1_talkingBoats_9 (by decide) (fun h9 => absurd h9 (by rw [hR.c4]; exact cnt_lt hI.hc5.1 hi)) (fun h9 => ?_)
    refine V_aload_n hC kX1_talkingBoats_12 rfl ?_
    refine V_iload_n hC kX1_talkingBoats_13 rfl ?_
    refine V_cV_fR hC (cl_boatR hWr hR hI hi) mkX1_boatAt lmX1_70 kX1_talkingBoats_14 (Nat.le_of_ble_eq_true rfl) rfl rfl rfl (Nat.le_of_ble_eq_true rfl) ⟨(Nat.le_of_ble_eq_true rfl), (Nat.le_of_ble_eq_true rfl)⟩ ⟨rfl, rfl⟩ ⟨(Nat.le_of_ble_eq_true rfl), (Nat.le_of_ble_eq_true rfl)⟩ ?_
    refine V_astore_n hC [some _, some _, some _, some _] kX1_talkingBoats_17 rfl (Nat.le_of_ble_eq_true rfl) ?_
    refine V_aload_n hC kX1_talkingBoats_18 rfl ?_
    refine V_ifnull hC 32 kX1_talkingBoats_19 (by decide) (fun hq => by cases hq) (fun _ _ => ?_)
    refine V_aload_n hC kX1_talkingBoats_22 rfl ?_
    refine V_getI hC 0 4 lfX1_91 kX1_talkingBoats_23 (Nat.le_of_ble_eq_true rfl) (Nat.le_of_ble_eq_true rfl) rfl ?_
    refine V_if_le hC 32 kX1_talkingBoats_26 (by decide) (fun h26 => ?_) (fun h26 => ?_)
    · refine V_iinc hC (_ + 1) [some _, some _, some _, some _] kX1_talkingBoats_32 rfl rfl rfl (Nat.le_of_ble_eq_true rfl) ?_
      refine V_goto hC 4 kX1_talkingBoats_35 (by decide) ?_
      rw [hR.b4 hI hi] at h26
      refine V_drop 3 [_, _, _, none] rfl ?_
      refine V_eq ?_ rfl ihi
      rw [nI_succ, F_thatN, if_neg (by decide)]
      rw [b01_f (Int32.not_lt.mpr h26), Int32.add_zero]
    · refine V_iinc hC (_ + 1) [some _, some _, some _, some _] kX1_talkingBoats_29 rfl rfl rfl (Nat.le_of_ble_eq_true rfl) ?_
      refine V_iinc hC (_ + 1) [some _, some _, some _, some _] kX1_talkingBoats_32 rfl rfl rfl (Nat.le_of_ble_eq_true rfl) ?_
      refine V_goto hC 4 kX1_talkingBoats_35 (by decide) ?_
      rw [hR.b4 hI hi] at h26
      refine V_drop 3 [_, _, _, none] rfl ?_
      refine V_eq ?_ rfl ihi
      rw [nI_succ, F_thatN, if_neg (by decide)]
      rw [b01_t (Int32.not_le.mp h26)]
def mtX1_numberOf : Mt := (yX1_numberOf, cX1_numberOf, 2, (some .int), 2, 44, 0, 0)
theorem kX1_numberOf_0 : Dk mtX1_numberOf 0 (.iload_n 1) 1 1 := ⟨by decide +kernel, rfl⟩
theorem kX1_numberOf_1 : Dk mtX1_numberOf 1 (.tableswitch 96 0 8 #[51, 56, 61, 66, 71, 76, 81, 86, 91]) 51 52 := ⟨by decide +kernel, rfl⟩
theorem kX1_numberOf_52 : Dk mtX1_numberOf 52 (.aload_n 0) 1 53 := ⟨by decide +kernel, rfl⟩
theorem kX1_numberOf_53 : Dk mtX1_numberOf 53 (.getfield 37) 3 56 := ⟨by decide +kernel, rfl⟩
theorem kX1_numberOf_56 : Dk mtX1_numberOf 56 (.ireturn) 1 57 := ⟨by decide +kernel, rfl⟩
theorem kX1_numberOf_57 : Dk mtX1_numberOf 57 (.aload_n 0) 1 58 := ⟨by decide +kernel, rfl⟩
theorem kX1_numberOf_58 : Dk mtX1_numberOf 58 (.getfield 41) 3 61 := ⟨by decide +kernel, rfl⟩
theorem kX1_numberOf_61 : Dk mtX1_numberOf 61 (.ireturn) 1 62 := ⟨by decide +kernel, rfl⟩
theorem kX1_numberOf_62 : Dk mtX1_numberOf 62 (.aload_n 0) 1 63 := ⟨by decide +kernel, rfl⟩
theorem kX1_numberOf_63 : Dk mtX1_numberOf 63 (.getfield 44) 3 66 := ⟨by decide +kernel, rfl⟩
theorem kX1_numberOf_66 : Dk mtX1_numberOf 66 (.ireturn) 1 67 := ⟨by decide +kernel, rfl⟩
theorem kX1_numberOf_67 : Dk mtX1_numberOf 67 (.aload_n 0) 1 68 := ⟨by decide +kernel, rfl⟩
theorem kX1_numberOf_68 : Dk mtX1_numberOf 68 (.invokevirtual 81) 3 71 := ⟨by decide +kernel, rfl⟩
theorem kX1_numberOf_71 : Dk mtX1_numberOf 71 (.ireturn) 1 72 := ⟨by decide +kernel, rfl⟩
theorem kX1_numberOf_72 : Dk mtX1_numberOf 72 (.aload_n 0) 1 73 := ⟨by decide +kernel, rfl⟩
theorem kX1_numberOf_73 : Dk mtX1_numberOf 73 (.invokevirtual 85) 3 76 := ⟨by decide +kernel, rfl⟩
theorem kX1_numberOf_76 : Dk mtX1_numberOf 76 (.ireturn) 1 77 := ⟨by decide +kernel, rfl⟩
theorem kX1_numberOf_77 : Dk mtX1_numberOf 77 (.aload_n 0) 1 78 := ⟨by decide +kernel, rfl⟩
theorem kX1_numberOf_78 : Dk mtX1_numberOf 78 (.getfield 47) 3 81 := ⟨by decide +kernel, rfl⟩
theorem kX1_numberOf_81 : Dk mtX1_numberOf 81 (.ireturn) 1 82 := ⟨by decide +kernel, rfl⟩
theorem kX1_numberOf_82 : Dk mtX1_numberOf 82 (.aload_n 0) 1 83 := ⟨by decide +kernel, rfl⟩
theorem kX1_numberOf_83 : Dk mtX1_numberOf 83 (.getfield 50) 3 86 := ⟨by decide +kernel, rfl⟩
theorem kX1_numberOf_86 : Dk mtX1_numberOf 86 (.ireturn) 1 87 := ⟨by decide +kernel, rfl⟩
theorem kX1_numberOf_87 : Dk mtX1_numberOf 87 (.aload_n 0) 1 88 := ⟨by decide +kernel, rfl⟩
theorem kX1_numberOf_88 : Dk mtX1_numberOf 88 (.getfield 53) 3 91 := ⟨by decide +kernel, rfl⟩
theorem kX1_numberOf_91 : Dk mtX1_numberOf 91 (.ireturn) 1 92 := ⟨by decide +kernel, rfl⟩
theorem kX1_numberOf_92 : Dk mtX1_numberOf 92 (.aload_n 0) 1 93 := ⟨by decide +kernel, rfl⟩
theorem kX1_numberOf_93 : Dk mtX1_numberOf 93 (.getfield 56) 3 96 := ⟨by decide +kernel, rfl⟩
theorem kX1_numberOf_96 : Dk mtX1_numberOf 96 (.ireturn) 1 97 := ⟨by decide +kernel, rfl⟩
theorem kX1_numberOf_97 : Dk mtX1_numberOf 97 (.aload_n 0) 1 98 := ⟨by decide +kernel, rfl⟩
theorem kX1_numberOf_98 : Dk mtX1_numberOf 98 (.getfield 59) 3 101 := ⟨by decide +kernel, rfl⟩
theorem kX1_numberOf_101 : Dk mtX1_numberOf 101 (.ireturn) 1 102 := ⟨by decide +kernel, rfl⟩
theorem lfX1_44 : LkF RX1 44 1 5 := Or.inl (by decide +kernel)
theorem lmX1_81 : LkM RX1 81 mtX1_servedBoats := Or.inl (by decide +kernel)
theorem mkX1_servedBoats : MkV mtX1_servedBoats 0 := ⟨List.mem_of_getElem? (i := 314) (by decide +kernel), by decide +kernel, by decide +kernel, by decide +kernel, ⟨by decide +kernel, by decide +kernel, by decide +kernel⟩⟩
theorem lmX1_85 : LkM RX1 85 mtX1_talkingBoats := Or.inl (by decide +kernel)
theorem mkX1_talkingBoats : MkV mtX1_talkingBoats 0 := ⟨List.mem_of_getElem? (i := 322) (by decide +kernel), by decide +kernel, by decide +kernel, by decide +kernel, ⟨by decide +kernel, by decide +kernel, by decide +kernel⟩⟩
theorem lfX1_47 : LkF RX1 47 1 6 := Or.inl (by decide +kernel)
theorem lfX1_50 : LkF RX1 50 1 7 := Or.inl (by decide +kernel)
theorem lfX1_53 : LkF RX1 53 1 8 := Or.inl (by decide +kernel)
theorem lfX1_56 : LkF RX1 56 1 9 := Or.inl (by decide +kernel)
theorem lfX1_59 : LkF RX1 59 1 10 := Or.inl (by decide +kernel)
set_option maxHeartbeats 4000000 in
set_option maxRecDepth 100000 in
theorem cl_numberOf {l : Launch} {w : Wd} {sg : Sg} (hWr : Wr w) (a : Int32) (ha : inn a 0 9) {c : Nat} {g : Gs} (hR : Rel sg c g) (hI : Inv g) : M l mtX1_numberOf w [vR (some (1, 0, c)), vI a] sg (fI (F_tells g a) sg) := by
  refine M_of [some (vR (some (1, 0, c))), some (vI a)] rfl (Nat.le_of_ble_eq_true rfl) (by decide +kernel) ?_
  intro p_ e_ s_ m_ args_ below_ meth_ c_ hC hO
  obtain ⟨N, hN, ea⟩ : ∃ N, N < 10 ∧ a = nI N := vp_in_of (inn_vp (by decide) ha) (by decide)
  subst ea
  rcases (show N = 0 ∨ N = 1 ∨ N = 2 ∨ N = 3 ∨ N = 4 ∨ N = 5 ∨ N = 6 ∨ N = 7 ∨ N = 8 ∨ N = 9 by omega) with e | e | e | e | e | e | e | e | e | e <;> subst e
  · refine V_iload_n hC kX1_numberOf_0 rfl ?_
    refine V_tabIn hC (51) 52 kX1_numberOf_1 (by decide) (by decide) rfl (by decide) ?_
    refine V_aload_n hC kX1_numberOf_52 rfl ?_
    refine V_getI hC 1 3 lfX1_37 kX1_numberOf_53 (Nat.le_of_ble_eq_true rfl) (Nat.le_of_ble_eq_true rfl) rfl ?_
    refine V_ireti hC rfl kX1_numberOf_56 ?_
    refine ⟨cI ?_, by with_reducible rfl⟩
    first
    | exact hR.c3
    | exact hR.c4
    | exact hR.c5
    | exact hR.c6
    | exact hR.c7
    | exact hR.c8
    | exact hR.c9
    | exact hR.c10
    | rfl
  · refine V_iload_n hC kX1_numberOf_0 rfl ?_
    refine V_tabIn hC (56) 57 kX1_numberOf_1 (by decide) (by decide) rfl (by decide) ?_
    refine V_aload_n hC kX1_numberOf_57 rfl ?_
    refine V_getI hC 1 4 lfX1_41 kX1_numberOf_58 (Nat.le_of_ble_eq_true rfl) (Nat.le_of_ble_eq_true rfl) rfl ?_
    refine V_ireti hC rfl kX1_numberOf_61 ?_
    refine ⟨cI ?_, by with_reducible rfl⟩
    first
    | exact hR.c3
    | exact hR.c4
    | exact hR.c5
    | exact hR.c6
    | exact hR.c7
    | exact hR.c8
    | exact hR.c9
    | exact hR.c10
    | rfl
  · refine V_iload_n hC kX1_numberOf_0 rfl ?_
    refine V_tabIn hC (61) 62 kX1_numberOf_1 (by decide) (by decide) rfl (by decide) ?_
    refine V_aload_n hC kX1_numberOf_62 rfl ?_
    refine V_getI hC 1 5 lfX1_44 kX1_numberOf_63 (Nat.le_of_ble_eq_true rfl) (Nat.le_of_ble_eq_true rfl) rfl ?_
    refine V_ireti hC rfl kX1_numberOf_66 ?_
    refine ⟨cI ?_, by with_reducible rfl⟩
    first
    | exact hR.c3
    | exact hR.c4
    | exact hR.c5
    | exact hR.c6
    | exact hR.c7
    | exact hR.c8
    | exact hR.c9
    | exact hR.c10
    | rfl
  · refine V_iload_n hC kX1_numberOf_0 rfl ?_
    refine V_tabIn hC (66) 67 kX1_numberOf_1 (by decide) (by decide) rfl (by decide) ?_
    refine V_aload_n hC kX1_numberOf_67 rfl ?_
    refine V_cV_fI hC (cl_servedBoats hWr hR hI) mkX1_servedBoats lmX1_81 kX1_numberOf_68 (Nat.le_of_ble_eq_true rfl) rfl rfl rfl (Nat.le_of_ble_eq_true rfl) ⟨(Nat.le_of_ble_eq_true rfl), (Nat.le_of_ble_eq_true rfl)⟩ ⟨rfl, rfl⟩ ⟨(Nat.le_of_ble_eq_true rfl), (Nat.le_of_ble_eq_true rfl)⟩ ?_
    refine V_ireti hC rfl kX1_numberOf_71 ?_
    refine ⟨cI ?_, by with_reducible rfl⟩
    first
    | exact hR.c3
    | exact hR.c4
    | exact hR.c5
    | exact hR.c6
    | exact hR.c7
    | exact hR.c8
    | exact hR.c9
    | exact hR.c10
    | rfl
  · refine V_iload_n hC kX1_numberOf_0 rfl ?_
    refine V_tabIn hC (71) 72 kX1_numberOf_1 (by decide) (by decide) rfl (by decide) ?_
    refine V_aload_n hC kX1_numberOf_72 rfl ?_
    refine V_cV_fI hC (cl_talkingBoats hWr hR hI) mkX1_talkingBoats lmX1_85 kX1_numberOf_73 (Nat.le_of_ble_eq_true rfl) rfl rfl rfl (Nat.le_of_ble_eq_true rfl) ⟨(Nat.le_of_ble_eq_true rfl), (Nat.le_of_ble_eq_true rfl)⟩ ⟨rfl, rfl⟩ ⟨(Nat.le_of_ble_eq_true rfl), (Nat.le_of_ble_eq_true rfl)⟩ ?_
    refine V_ireti hC rfl kX1_numberOf_76 ?_
    refine ⟨cI ?_, by with_reducible rfl⟩
    first
    | exact hR.c3
    | exact hR.c4
    | exact hR.c5
    | exact hR.c6
    | exact hR.c7
    | exact hR.c8
    | exact hR.c9
    | exact hR.c10
    | rfl
  · refine V_iload_n hC kX1_numberOf_0 rfl ?_
    refine V_tabIn hC (76) 77 kX1_numberOf_1 (by decide) (by decide) rfl (by decide) ?_
    refine V_aload_n hC kX1_numberOf_77 rfl ?_
    refine V_getI hC 1 6 lfX1_47 kX1_numberOf_78 (Nat.le_of_ble_eq_true rfl) (Nat.le_of_ble_eq_true rfl) rfl ?_
    refine V_ireti hC rfl kX1_numberOf_81 ?_
    refine ⟨cI ?_, by with_reducible rfl⟩
    first
    | exact hR.c3
    | exact hR.c4
    | exact hR.c5
    | exact hR.c6
    | exact hR.c7
    | exact hR.c8
    | exact hR.c9
    | exact hR.c10
    | rfl
  · refine V_iload_n hC kX1_numberOf_0 rfl ?_
    refine V_tabIn hC (81) 82 kX1_numberOf_1 (by decide) (by decide) rfl (by decide) ?_
    refine V_aload_n hC kX1_numberOf_82 rfl ?_
    refine V_getI hC 1 7 lfX1_50 kX1_numberOf_83 (Nat.le_of_ble_eq_true rfl) (Nat.le_of_ble_eq_true rfl) rfl ?_
    refine V_ireti hC rfl kX1_numberOf_86 ?_
    refine ⟨cI ?_, by with_reducible rfl⟩
    first
    | exact hR.c3
    | exact hR.c4
    | exact hR.c5
    | exact hR.c6
    | exact hR.c7
    | exact hR.c8
    | exact hR.c9
    | exact hR.c10
    | rfl
  · refine V_iload_n hC kX1_numberOf_0 rfl ?_
    refine V_tabIn hC (86) 87 kX1_numberOf_1 (by decide) (by decide) rfl (by decide) ?_
    refine V_aload_n hC kX1_numberOf_87 rfl ?_
    refine V_getI hC 1 8 lfX1_53 kX1_numberOf_88 (Nat.le_of_ble_eq_true rfl) (Nat.le_of_ble_eq_true rfl) rfl ?_
    refine V_ireti hC rfl kX1_numberOf_91 ?_
    refine ⟨cI ?_, by with_reducible rfl⟩
    first
    | exact hR.c3
    | exact hR.c4
    | exact hR.c5
    | exact hR.c6
    | exact hR.c7
    | exact hR.c8
    | exact hR.c9
    | exact hR.c10
    | rfl
  · refine V_iload_n hC kX1_numberOf_0 rfl ?_
    refine V_tabIn hC (91) 92 kX1_numberOf_1 (by decide) (by decide) rfl (by decide) ?_
    refine V_aload_n hC kX1_numberOf_92 rfl ?_
    refine V_getI hC 1 9 lfX1_56 kX1_numberOf_93 (Nat.le_of_ble_eq_true rfl) (Nat.le_of_ble_eq_true rfl) rfl ?_
    refine V_ireti hC rfl kX1_numberOf_96 ?_
    refine ⟨cI ?_, by with_reducible rfl⟩
    first
    | exact hR.c3
    | exact hR.c4
    | exact hR.c5
    | exact hR.c6
    | exact hR.c7
    | exact hR.c8
    | exact hR.c9
    | exact hR.c10
    | rfl
  · refine V_iload_n hC kX1_numberOf_0 rfl ?_
    refine V_tabOut hC 97 kX1_numberOf_1 (by decide) (by decide) ?_
    refine V_aload_n hC kX1_numberOf_97 rfl ?_
    refine V_getI hC 1 10 lfX1_59 kX1_numberOf_98 (Nat.le_of_ble_eq_true rfl) (Nat.le_of_ble_eq_true rfl) rfl ?_
    refine V_ireti hC rfl kX1_numberOf_101 ?_
    refine ⟨cI ?_, by with_reducible rfl⟩
    first
    | exact hR.c3
    | exact hR.c4
    | exact hR.c5
    | exact hR.c6
    | exact hR.c7
    | exact hR.c8
    | exact hR.c9
    | exact hR.c10
    | rfl
def mtX1_brightest : Mt := (yX1_brightest, cX1_brightest, 7, (some .int), 2, 48, 0, 0)
theorem kX1_brightest_0 : Dk mtX1_brightest 0 (.iconst (-1)) 1 1 := ⟨by decide +kernel, rfl⟩
theorem kX1_brightest_1 : Dk mtX1_brightest 1 (.istore_n 2) 1 2 := ⟨by decide +kernel, rfl⟩
theorem kX1_brightest_2 : Dk mtX1_brightest 2 (.iconst 0) 1 3 := ⟨by decide +kernel, rfl⟩
theorem kX1_brightest_3 : Dk mtX1_brightest 3 (.istore_n 3) 1 4 := ⟨by decide +kernel, rfl⟩
theorem kX1_brightest_4 : Dk mtX1_brightest 4 (.iconst 0) 1 5 := ⟨by decide +kernel, rfl⟩
theorem kX1_brightest_5 : Dk mtX1_brightest 5 (.istore 4) 2 7 := ⟨by decide +kernel, rfl⟩
theorem kX1_brightest_7 : Dk mtX1_brightest 7 (.iload 4) 2 9 := ⟨by decide +kernel, rfl⟩
theorem kX1_brightest_9 : Dk mtX1_brightest 9 (.aload_n 0) 1 10 := ⟨by decide +kernel, rfl⟩
theorem kX1_brightest_10 : Dk mtX1_brightest 10 (.getfield 37) 3 13 := ⟨by decide +kernel, rfl⟩
theorem kX1_brightest_13 : Dk mtX1_brightest 13 (.if_icmp .ge 60) 3 16 := ⟨by decide +kernel, rfl⟩
theorem kX1_brightest_16 : Dk mtX1_brightest 16 (.aload_n 0) 1 17 := ⟨by decide +kernel, rfl⟩
theorem kX1_brightest_17 : Dk mtX1_brightest 17 (.iload 4) 2 19 := ⟨by decide +kernel, rfl⟩
theorem kX1_brightest_19 : Dk mtX1_brightest 19 (.invokevirtual 62) 3 22 := ⟨by decide +kernel, rfl⟩
theorem kX1_brightest_22 : Dk mtX1_brightest 22 (.astore 5) 2 24 := ⟨by decide +kernel, rfl⟩
theorem kX1_brightest_24 : Dk mtX1_brightest 24 (.aload 5) 2 26 := ⟨by decide +kernel, rfl⟩
theorem kX1_brightest_26 : Dk mtX1_brightest 26 (.ifnonnull 7) 3 29 := ⟨by decide +kernel, rfl⟩
theorem kX1_brightest_33 : Dk mtX1_brightest 33 (.aload 5) 2 35 := ⟨by decide +kernel, rfl⟩
theorem kX1_brightest_35 : Dk mtX1_brightest 35 (.iload_n 1) 1 36 := ⟨by decide +kernel, rfl⟩
theorem kX1_brightest_36 : Dk mtX1_brightest 36 (.aload_n 0) 1 37 := ⟨by decide +kernel, rfl⟩
theorem kX1_brightest_37 : Dk mtX1_brightest 37 (.getfield 44) 3 40 := ⟨by decide +kernel, rfl⟩
theorem kX1_brightest_40 : Dk mtX1_brightest 40 (.invokevirtual 94) 3 43 := ⟨by decide +kernel, rfl⟩
theorem kX1_brightest_43 : Dk mtX1_brightest 43 (.istore 6) 2 45 := ⟨by decide +kernel, rfl⟩
theorem kX1_brightest_45 : Dk mtX1_brightest 45 (.aload 5) 2 47 := ⟨by decide +kernel, rfl⟩
theorem kX1_brightest_47 : Dk mtX1_brightest 47 (.ifnull 20) 3 50 := ⟨by decide +kernel, rfl⟩
theorem kX1_brightest_50 : Dk mtX1_brightest 50 (.iload_n 2) 1 51 := ⟨by decide +kernel, rfl⟩
theorem kX1_brightest_51 : Dk mtX1_brightest 51 (.iconst (-1)) 1 52 := ⟨by decide +kernel, rfl⟩
theorem kX1_brightest_52 : Dk mtX1_brightest 52 (.if_icmp .eq 9) 3 55 := ⟨by decide +kernel, rfl⟩
theorem kX1_brightest_55 : Dk mtX1_brightest 55 (.iload 6) 2 57 := ⟨by decide +kernel, rfl⟩
theorem kX1_brightest_57 : Dk mtX1_brightest 57 (.iload_n 3) 1 58 := ⟨by decide +kernel, rfl⟩
theorem kX1_brightest_58 : Dk mtX1_brightest 58 (.if_icmp .le 9) 3 61 := ⟨by decide +kernel, rfl⟩
theorem kX1_brightest_61 : Dk mtX1_brightest 61 (.iload 4) 2 63 := ⟨by decide +kernel, rfl⟩
theorem kX1_brightest_63 : Dk mtX1_brightest 63 (.istore_n 2) 1 64 := ⟨by decide +kernel, rfl⟩
theorem kX1_brightest_64 : Dk mtX1_brightest 64 (.iload 6) 2 66 := ⟨by decide +kernel, rfl⟩
theorem kX1_brightest_66 : Dk mtX1_brightest 66 (.istore_n 3) 1 67 := ⟨by decide +kernel, rfl⟩
theorem kX1_brightest_67 : Dk mtX1_brightest 67 (.iinc 4 1) 3 70 := ⟨by decide +kernel, rfl⟩
theorem kX1_brightest_70 : Dk mtX1_brightest 70 (.goto (-63)) 3 73 := ⟨by decide +kernel, rfl⟩
theorem kX1_brightest_73 : Dk mtX1_brightest 73 (.iload_n 2) 1 74 := ⟨by decide +kernel, rfl⟩
theorem kX1_brightest_74 : Dk mtX1_brightest 74 (.ireturn) 1 75 := ⟨by decide +kernel, rfl⟩
theorem lmX1_62 : LkM RX1 62 mtX1_lightAt := Or.inl (by decide +kernel)
theorem mkX1_lightAt : MkV mtX1_lightAt 1 := ⟨List.mem_of_getElem? (i := 354) (by decide +kernel), by decide +kernel, by decide +kernel, by decide +kernel, ⟨by decide +kernel, by decide +kernel, by decide +kernel⟩⟩
theorem lmX1_94 : LkM RX1 94 mtX2_worthAt := Or.inl (by decide +kernel)
theorem mkX2_worthAt : MkV mtX2_worthAt 2 := ⟨List.mem_of_getElem? (i := 358) (by decide +kernel), by decide +kernel, by decide +kernel, by decide +kernel, ⟨by decide +kernel, by decide +kernel, by decide +kernel⟩⟩
set_option maxHeartbeats 4000000 in
set_option maxRecDepth 100000 in
theorem cl_brightest {l : Launch} {w : Wd} {sg : Sg} (hWr : Wr w) (p : Int32) (hp : inI p 0 199) {c : Nat} {g : Gs} (hR : Rel sg c g) (hI : Inv g) : M l mtX1_brightest w [vR (some (1, 0, c)), vI p] sg (fI (F_best g p) sg) := by
  refine M_of [some (vR (some (1, 0, c))), some (vI p), none, none, none, none, none] rfl (Nat.le_of_ble_eq_true rfl) (by decide +kernel) ?_
  intro p_ e_ s_ m_ args_ below_ meth_ c_ hC hO
  refine V_iconst hC (-1) kX1_brightest_0 (by decide) ?_
  refine V_istore_n hC [some _, some _, some _, none, none, none, none] kX1_brightest_1 rfl (Nat.le_of_ble_eq_true rfl) ?_
  refine V_iconst hC (0) kX1_brightest_2 (by decide) ?_
  refine V_istore_n hC [some _, some _, some _, some _, none, none, none] kX1_brightest_3 rfl (Nat.le_of_ble_eq_true rfl) ?_
  refine V_iconst hC (0) kX1_brightest_4 (by decide) ?_
  refine V_istore hC [some _, some _, some _, some _, some _, none, none] kX1_brightest_5 rfl (Nat.le_of_ble_eq_true rfl) ?_
  refine V_loop (tn (g 4)) (fun i => [some (vR (some (1, 0, c))), some (vI p), some (vI (F_bestN g p i)), some (vI (if F_bestN g p i = -1 then 0 else F_worth g (F_bestN g p i) p)), some (vI (nI i)), none, none]) (fun i => sg) rfl rfl ?_ (fun i hi ihi => ?_)
  · refine V_iload hC kX1_brightest_7 rfl ?_
    refine V_aload_n hC kX1_brightest_9 rfl ?_
    refine V_getI hC 1 3 lfX1_37 kX1_brightest_10 (Nat.le_of_ble_eq_true rfl) (Nat.le_of_ble_eq_true rfl) rfl ?_
    refine V_icmp_ge hC 73 kX1_brightest_13 (by decide) (fun h13 => ?_) (fun h13 => absurd h13 (not_not_intro (by rw [hR.c3]; exact cnt_le hI.hc4.1)))
    refine V_iload_n hC kX1_brightest_73 rfl ?_
    refine V_ireti hC rfl kX1_brightest_74 ?_
    refine ⟨cI ?_, by with_reducible rfl⟩
    unfold F_best
    with_reducible rfl
  · refine V_iload hC kX1_brightest_7 rfl ?_
    refine V_aload_n hC kX1_brightest_9 rfl ?_
    refine V_getI hC 1 3 lfX1_37 kX1_brightest_10 (Nat.le_of_ble_eq_true rfl) (Nat.le_of_ble_eq_true rfl) rfl ?_
    refine V_icmp_ge hC 73 kX1_brightest_13 (by decide) (fun h13 => absurd h13 (by rw [hR.c3]; exact cnt_lt hI.hc4.1 hi)) (fun h13 => ?_)
    refine V_aload_n hC kX1_brightest_16 rfl ?_
    refine V_iload hC kX1_brightest_17 rfl ?_
    refine V_cV_fR hC (cl_lightR hWr hR hI hi) mkX1_lightAt lmX1_62 kX1_brightest_19 (Nat.le_of_ble_eq_true rfl) rfl rfl rfl (Nat.le_of_ble_eq_true rfl) ⟨(Nat.le_of_ble_eq_true rfl), (Nat.le_of_ble_eq_true rfl)⟩ ⟨rfl, rfl⟩ ⟨(Nat.le_of_ble_eq_true rfl), (Nat.le_of_ble_eq_true rfl)⟩ ?_
    refine V_astore hC [some _, some _, some _, some _, some _, some _, none] kX1_brightest_22 rfl (Nat.le_of_ble_eq_true rfl) ?_
    refine V_aload hC kX1_brightest_24 rfl ?_
    refine V_ifnonnull hC 33 kX1_brightest_26 (by decide) (fun _ _ => ?_) (fun hq => by cases hq)
    refine V_aload hC kX1_brightest_33 rfl ?_
    refine V_iload_n hC kX1_brightest_35 rfl ?_
    refine V_aload_n hC kX1_brightest_36 rfl ?_
    refine V_getI hC 1 5 lfX1_44 kX1_brightest_37 (Nat.le_of_ble_eq_true rfl) (Nat.le_of_ble_eq_true rfl) rfl ?_
    refine V_cV_fI hC (cl_worth hWr p _ (hR.okW hI hi hp)) mkX2_worthAt lmX1_94 kX1_brightest_40 (Nat.le_of_ble_eq_true rfl) rfl rfl rfl (Nat.le_of_ble_eq_true rfl) ⟨(Nat.le_of_ble_eq_true rfl), (Nat.le_of_ble_eq_true rfl)⟩ ⟨rfl, rfl⟩ ⟨(Nat.le_of_ble_eq_true rfl), (Nat.le_of_ble_eq_true rfl)⟩ ?_
    refine V_nameI (fun wo e_wo => ?_)
    refine V_istore hC [some _, some _, some _, some _, some _, some _, some _] kX1_brightest_43 rfl (Nat.le_of_ble_eq_true rfl) ?_
    rw [hR.worth hI hi] at e_wo
    have hne : ¬ nI i = -1 := fun z => absurd (congrArg Int32.toInt z) (by rw [nI_toInt (by have := hI.c4.1; omega)]; show ¬ (i : Int) = -1; omega)
    refine V_aload hC kX1_brightest_45 rfl ?_
    refine V_ifnull hC 67 kX1_brightest_47 (by decide) (fun hq => by cases hq) (fun _ _ => ?_)
    refine V_iload_n hC kX1_brightest_50 rfl ?_
    refine V_iconst hC (-1) kX1_brightest_51 (by decide) ?_
    refine V_icmp_eq hC 61 kX1_brightest_52 (by decide) (fun h52 => ?_) (fun h52 => ?_)
    · refine V_iload hC kX1_brightest_61 rfl ?_
      refine V_istore_n hC [some _, some _, some _, some _, some _, some _, some _] kX1_brightest_63 rfl (Nat.le_of_ble_eq_true rfl) ?_
      refine V_iload hC kX1_brightest_64 rfl ?_
      refine V_istore_n hC [some _, some _, some _, some _, some _, some _, some _] kX1_brightest_66 rfl (Nat.le_of_ble_eq_true rfl) ?_
      refine V_iinc hC (_ + 1) [some _, some _, some _, some _, some _, some _, some _] kX1_brightest_67 rfl rfl rfl (Nat.le_of_ble_eq_true rfl) ?_
      refine V_goto hC 7 kX1_brightest_70 (by decide) ?_
      refine V_drop 5 [_, _, _, _, _, none, _] rfl ?_
      refine V_drop 6 [_, _, _, _, _, none, none] rfl ?_
      refine V_eq ?_ rfl ihi
      rw [nI_succ, show F_bestN g p (i + 1) = nI i by rw [F_bestN, if_pos (Or.inl h52)], if_neg hne, e_wo]
    · refine V_iload hC kX1_brightest_55 rfl ?_
      refine V_iload_n hC kX1_brightest_57 rfl ?_
      refine V_icmp_le hC 67 kX1_brightest_58 (by decide) (fun h58 => ?_) (fun h58 => ?_)
      · refine V_iinc hC (_ + 1) [some _, some _, some _, some _, some _, some _, some _] kX1_brightest_67 rfl rfl rfl (Nat.le_of_ble_eq_true rfl) ?_
        refine V_goto hC 7 kX1_brightest_70 (by decide) ?_
        rw [if_neg h52, e_wo] at h58
        refine V_drop 5 [_, _, _, _, _, none, _] rfl ?_
        refine V_drop 6 [_, _, _, _, _, none, none] rfl ?_
        refine V_eq ?_ rfl ihi
        rw [nI_succ, show F_bestN g p (i + 1) = F_bestN g p i by rw [F_bestN, if_neg (fun z => z.elim h52 (fun z => absurd z (Int32.not_lt.mpr h58)))]]
      · refine V_iload hC kX1_brightest_61 rfl ?_
        refine V_istore_n hC [some _, some _, some _, some _, some _, some _, some _] kX1_brightest_63 rfl (Nat.le_of_ble_eq_true rfl) ?_
        refine V_iload hC kX1_brightest_64 rfl ?_
        refine V_istore_n hC [some _, some _, some _, some _, some _, some _, some _] kX1_brightest_66 rfl (Nat.le_of_ble_eq_true rfl) ?_
        refine V_iinc hC (_ + 1) [some _, some _, some _, some _, some _, some _, some _] kX1_brightest_67 rfl rfl rfl (Nat.le_of_ble_eq_true rfl) ?_
        refine V_goto hC 7 kX1_brightest_70 (by decide) ?_
        rw [if_neg h52, e_wo] at h58
        refine V_drop 5 [_, _, _, _, _, none, _] rfl ?_
        refine V_drop 6 [_, _, _, _, _, none, none] rfl ?_
        refine V_eq ?_ rfl ihi
        rw [nI_succ, show F_bestN g p (i + 1) = nI i by rw [F_bestN, if_pos (Or.inr (Int32.not_le.mp h58))], if_neg hne, e_wo]
theorem lit_up (g : Gs) (q : Int32) {i : Nat} (h : ¬ F_lit g q i = 0) : ∀ d, ¬ F_lit g q (i + d) = 0
  | 0 => h
  | d + 1 => by
    show ¬ (if F_lit g q (i + d) = 0 ∧ F_bright g (nI (i + d)) q < g 2 then (0 : Int32) else 1) = 0
    rw [if_neg (fun z => lit_up g q h d z.1)]
    decide
theorem lit_all (g : Gs) (q : Int32) {i n : Nat} (h : ¬ F_lit g q (i + 1) = 0) (hn : i < n) : ¬ F_lit g q n = 0 := by
  have := lit_up g q h (n - (i + 1))
  rw [show i + 1 + (n - (i + 1)) = n by omega] at this
  exact this
def mtX1_isDark : Mt := (yX1_isDark, cX1_isDark, 4, (some .boolean), 1, 26, 0, 0)
theorem kX1_isDark_0 : Dk mtX1_isDark 0 (.iconst 0) 1 1 := ⟨by decide +kernel, rfl⟩
theorem kX1_isDark_1 : Dk mtX1_isDark 1 (.istore_n 2) 1 2 := ⟨by decide +kernel, rfl⟩
theorem kX1_isDark_2 : Dk mtX1_isDark 2 (.iload_n 2) 1 3 := ⟨by decide +kernel, rfl⟩
theorem kX1_isDark_3 : Dk mtX1_isDark 3 (.aload_n 0) 1 4 := ⟨by decide +kernel, rfl⟩
theorem kX1_isDark_4 : Dk mtX1_isDark 4 (.getfield 37) 3 7 := ⟨by decide +kernel, rfl⟩
theorem kX1_isDark_7 : Dk mtX1_isDark 7 (.if_icmp .ge 38) 3 10 := ⟨by decide +kernel, rfl⟩
theorem kX1_isDark_10 : Dk mtX1_isDark 10 (.aload_n 0) 1 11 := ⟨by decide +kernel, rfl⟩
theorem kX1_isDark_11 : Dk mtX1_isDark 11 (.iload_n 2) 1 12 := ⟨by decide +kernel, rfl⟩
theorem kX1_isDark_12 : Dk mtX1_isDark 12 (.invokevirtual 62) 3 15 := ⟨by decide +kernel, rfl⟩
theorem kX1_isDark_15 : Dk mtX1_isDark 15 (.astore_n 3) 1 16 := ⟨by decide +kernel, rfl⟩
theorem kX1_isDark_16 : Dk mtX1_isDark 16 (.aload_n 3) 1 17 := ⟨by decide +kernel, rfl⟩
theorem kX1_isDark_17 : Dk mtX1_isDark 17 (.ifnull 22) 3 20 := ⟨by decide +kernel, rfl⟩
theorem kX1_isDark_20 : Dk mtX1_isDark 20 (.aload_n 3) 1 21 := ⟨by decide +kernel, rfl⟩
theorem kX1_isDark_21 : Dk mtX1_isDark 21 (.iload_n 1) 1 22 := ⟨by decide +kernel, rfl⟩
theorem kX1_isDark_22 : Dk mtX1_isDark 22 (.aload_n 0) 1 23 := ⟨by decide +kernel, rfl⟩
theorem kX1_isDark_23 : Dk mtX1_isDark 23 (.getfield 44) 3 26 := ⟨by decide +kernel, rfl⟩
theorem kX1_isDark_26 : Dk mtX1_isDark 26 (.invokevirtual 98) 3 29 := ⟨by decide +kernel, rfl⟩
theorem kX1_isDark_29 : Dk mtX1_isDark 29 (.aload_n 0) 1 30 := ⟨by decide +kernel, rfl⟩
theorem kX1_isDark_30 : Dk mtX1_isDark 30 (.iconst 2) 1 31 := ⟨by decide +kernel, rfl⟩
theorem kX1_isDark_31 : Dk mtX1_isDark 31 (.invokevirtual 77) 3 34 := ⟨by decide +kernel, rfl⟩
theorem kX1_isDark_34 : Dk mtX1_isDark 34 (.if_icmp .lt 5) 3 37 := ⟨by decide +kernel, rfl⟩
theorem kX1_isDark_37 : Dk mtX1_isDark 37 (.iconst 0) 1 38 := ⟨by decide +kernel, rfl⟩
theorem kX1_isDark_38 : Dk mtX1_isDark 38 (.ireturn) 1 39 := ⟨by decide +kernel, rfl⟩
theorem kX1_isDark_39 : Dk mtX1_isDark 39 (.iinc 2 1) 3 42 := ⟨by decide +kernel, rfl⟩
theorem kX1_isDark_42 : Dk mtX1_isDark 42 (.goto (-40)) 3 45 := ⟨by decide +kernel, rfl⟩
theorem kX1_isDark_45 : Dk mtX1_isDark 45 (.iconst 1) 1 46 := ⟨by decide +kernel, rfl⟩
theorem kX1_isDark_46 : Dk mtX1_isDark 46 (.ireturn) 1 47 := ⟨by decide +kernel, rfl⟩
theorem lmX1_98 : LkM RX1 98 mtX2_brightnessAt := Or.inl (by decide +kernel)
theorem lmX1_77 : LkM RX1 77 mtX1_settingOf := Or.inl (by decide +kernel)
theorem mkX1_settingOf : MkV mtX1_settingOf 1 := ⟨List.mem_of_getElem? (i := 412) (by decide +kernel), by decide +kernel, by decide +kernel, by decide +kernel, ⟨by decide +kernel, by decide +kernel, by decide +kernel⟩⟩
set_option maxHeartbeats 4000000 in
set_option maxRecDepth 100000 in
theorem cl_isDark {l : Launch} {w : Wd} {sg : Sg} (hWr : Wr w) (p : Int32) (hp : inI p 0 199) {c : Nat} {g : Gs} (hR : Rel sg c g) (hI : Inv g) : M l mtX1_isDark w [vR (some (1, 0, c)), vI p] sg (fI (b01 (F_lit g p (tn (g 4)) = 0)) sg) := by
  refine M_of [some (vR (some (1, 0, c))), some (vI p), none, none] rfl (Nat.le_of_ble_eq_true rfl) (by decide +kernel) ?_
  intro p_ e_ s_ m_ args_ below_ meth_ c_ hC hO
  refine V_iconst hC (0) kX1_isDark_0 (by decide) ?_
  refine V_istore_n hC [some _, some _, some _, none] kX1_isDark_1 rfl (Nat.le_of_ble_eq_true rfl) ?_
  refine V_loopR (tn (g 4)) (fun i (_ : Unit) => F_lit g p i = 0) (fun i _ => [some (vR (some (1, 0, c))), some (vI p), some (vI (nI i)), none]) (fun _ _ => sg) () rfl rfl rfl (fun _ hL => ?_) (fun i _ hi hL ih => ?_)
  · refine V_iload_n hC kX1_isDark_2 rfl ?_
    refine V_aload_n hC kX1_isDark_3 rfl ?_
    refine V_getI hC 1 3 lfX1_37 kX1_isDark_4 (Nat.le_of_ble_eq_true rfl) (Nat.le_of_ble_eq_true rfl) rfl ?_
    refine V_icmp_ge hC 45 kX1_isDark_7 (by decide) (fun h7 => ?_) (fun h7 => absurd h7 (not_not_intro (by rw [hR.c3]; exact cnt_le hI.hc4.1)))
    refine V_iconst hC (1) kX1_isDark_45 (by decide) ?_
    refine V_iretz hC rfl kX1_isDark_46 ?_ ?_
    · first | exact Or.inl rfl | exact Or.inr rfl
    · exact ⟨cI (b01_t hL).symm, by with_reducible rfl⟩
  · refine V_iload_n hC kX1_isDark_2 rfl ?_
    refine V_aload_n hC kX1_isDark_3 rfl ?_
    refine V_getI hC 1 3 lfX1_37 kX1_isDark_4 (Nat.le_of_ble_eq_true rfl) (Nat.le_of_ble_eq_true rfl) rfl ?_
    refine V_icmp_ge hC 45 kX1_isDark_7 (by decide) (fun h7 => absurd h7 (by rw [hR.c3]; exact cnt_lt hI.hc4.1 hi)) (fun h7 => ?_)
    refine V_aload_n hC kX1_isDark_10 rfl ?_
    refine V_iload_n hC kX1_isDark_11 rfl ?_
    refine V_cV_fR hC (cl_lightR hWr hR hI hi) mkX1_lightAt lmX1_62 kX1_isDark_12 (Nat.le_of_ble_eq_true rfl) rfl rfl rfl (Nat.le_of_ble_eq_true rfl) ⟨(Nat.le_of_ble_eq_true rfl), (Nat.le_of_ble_eq_true rfl)⟩ ⟨rfl, rfl⟩ ⟨(Nat.le_of_ble_eq_true rfl), (Nat.le_of_ble_eq_true rfl)⟩ ?_
    refine V_astore_n hC [some _, some _, some _, some _] kX1_isDark_15 rfl (Nat.le_of_ble_eq_true rfl) ?_
    refine V_aload_n hC kX1_isDark_16 rfl ?_
    refine V_ifnull hC 39 kX1_isDark_17 (by decide) (fun hq => by cases hq) (fun _ _ => ?_)
    refine V_aload_n hC kX1_isDark_20 rfl ?_
    refine V_iload_n hC kX1_isDark_21 rfl ?_
    refine V_aload_n hC kX1_isDark_22 rfl ?_
    refine V_getI hC 1 5 lfX1_44 kX1_isDark_23 (Nat.le_of_ble_eq_true rfl) (Nat.le_of_ble_eq_true rfl) rfl ?_
    refine V_cV_fI hC (cl_bright hWr p _ (hR.okW hI hi hp)) mkX2_brightnessAt lmX1_98 kX1_isDark_26 (Nat.le_of_ble_eq_true rfl) rfl rfl rfl (Nat.le_of_ble_eq_true rfl) ⟨(Nat.le_of_ble_eq_true rfl), (Nat.le_of_ble_eq_true rfl)⟩ ⟨rfl, rfl⟩ ⟨(Nat.le_of_ble_eq_true rfl), (Nat.le_of_ble_eq_true rfl)⟩ ?_
    refine V_aload_n hC kX1_isDark_29 rfl ?_
    refine V_iconst hC (2) kX1_isDark_30 (by decide) ?_
    refine V_cV_fI hC (cl_setR hWr hR (j := 2) (by decide) rfl) mkX1_settingOf lmX1_77 kX1_isDark_31 (Nat.le_of_ble_eq_true rfl) rfl rfl rfl (Nat.le_of_ble_eq_true rfl) ⟨(Nat.le_of_ble_eq_true rfl), (Nat.le_of_ble_eq_true rfl)⟩ ⟨rfl, rfl⟩ ⟨(Nat.le_of_ble_eq_true rfl), (Nat.le_of_ble_eq_true rfl)⟩ ?_
    refine V_icmp_lt hC 39 kX1_isDark_34 (by decide) (fun h34 => ?_) (fun h34 => ?_)
    · refine V_iinc hC (_ + 1) [some _, some _, some _, some _] kX1_isDark_39 rfl rfl rfl (Nat.le_of_ble_eq_true rfl) ?_
      refine V_goto hC 2 kX1_isDark_42 (by decide) ?_
      refine V_drop 3 [_, _, _, none] rfl ?_
      refine V_eq (by rw [nI_succ]) rfl (ih () ?_)
      rw [F_lit, if_pos ⟨hL, by rw [hR.bright hI hi] at h34; exact h34⟩]
    · refine V_iconst hC (0) kX1_isDark_37 (by decide) ?_
      refine V_iretz hC rfl kX1_isDark_38 ?_ ?_
      · first | exact Or.inl rfl | exact Or.inr rfl
      · refine ⟨cI (b01_f (lit_all g p ?_ hi)).symm, by with_reducible rfl⟩
        rw [F_lit, if_neg (fun z => h34 (by rw [hR.bright hI hi]; exact z.2))]
        decide
def mtX1_freePlaces : Mt := (yX1_freePlaces, cX1_freePlaces, 4, (some .int), 2, 40, 0, 0)
theorem kX1_freePlaces_0 : Dk mtX1_freePlaces 0 (.iconst 0) 1 1 := ⟨by decide +kernel, rfl⟩
theorem kX1_freePlaces_1 : Dk mtX1_freePlaces 1 (.istore_n 1) 1 2 := ⟨by decide +kernel, rfl⟩
theorem kX1_freePlaces_2 : Dk mtX1_freePlaces 2 (.iconst 0) 1 3 := ⟨by decide +kernel, rfl⟩
theorem kX1_freePlaces_3 : Dk mtX1_freePlaces 3 (.istore_n 2) 1 4 := ⟨by decide +kernel, rfl⟩
theorem kX1_freePlaces_4 : Dk mtX1_freePlaces 4 (.iload_n 2) 1 5 := ⟨by decide +kernel, rfl⟩
theorem kX1_freePlaces_5 : Dk mtX1_freePlaces 5 (.aload_n 0) 1 6 := ⟨by decide +kernel, rfl⟩
theorem kX1_freePlaces_6 : Dk mtX1_freePlaces 6 (.getfield 37) 3 9 := ⟨by decide +kernel, rfl⟩
theorem kX1_freePlaces_9 : Dk mtX1_freePlaces 9 (.if_icmp .ge 31) 3 12 := ⟨by decide +kernel, rfl⟩
theorem kX1_freePlaces_12 : Dk mtX1_freePlaces 12 (.aload_n 0) 1 13 := ⟨by decide +kernel, rfl⟩
theorem kX1_freePlaces_13 : Dk mtX1_freePlaces 13 (.iload_n 2) 1 14 := ⟨by decide +kernel, rfl⟩
theorem kX1_freePlaces_14 : Dk mtX1_freePlaces 14 (.invokevirtual 62) 3 17 := ⟨by decide +kernel, rfl⟩
theorem kX1_freePlaces_17 : Dk mtX1_freePlaces 17 (.astore_n 3) 1 18 := ⟨by decide +kernel, rfl⟩
theorem kX1_freePlaces_18 : Dk mtX1_freePlaces 18 (.aload_n 3) 1 19 := ⟨by decide +kernel, rfl⟩
theorem kX1_freePlaces_19 : Dk mtX1_freePlaces 19 (.ifnull 15) 3 22 := ⟨by decide +kernel, rfl⟩
theorem kX1_freePlaces_22 : Dk mtX1_freePlaces 22 (.iload_n 1) 1 23 := ⟨by decide +kernel, rfl⟩
theorem kX1_freePlaces_23 : Dk mtX1_freePlaces 23 (.aload_n 3) 1 24 := ⟨by decide +kernel, rfl⟩
theorem kX1_freePlaces_24 : Dk mtX1_freePlaces 24 (.getfield 101) 3 27 := ⟨by decide +kernel, rfl⟩
theorem kX1_freePlaces_27 : Dk mtX1_freePlaces 27 (.aload_n 3) 1 28 := ⟨by decide +kernel, rfl⟩
theorem kX1_freePlaces_28 : Dk mtX1_freePlaces 28 (.invokevirtual 104) 3 31 := ⟨by decide +kernel, rfl⟩
theorem kX1_freePlaces_31 : Dk mtX1_freePlaces 31 (.isub) 1 32 := ⟨by decide +kernel, rfl⟩
theorem kX1_freePlaces_32 : Dk mtX1_freePlaces 32 (.iadd) 1 33 := ⟨by decide +kernel, rfl⟩
theorem kX1_freePlaces_33 : Dk mtX1_freePlaces 33 (.istore_n 1) 1 34 := ⟨by decide +kernel, rfl⟩
theorem kX1_freePlaces_34 : Dk mtX1_freePlaces 34 (.iinc 2 1) 3 37 := ⟨by decide +kernel, rfl⟩
theorem kX1_freePlaces_37 : Dk mtX1_freePlaces 37 (.goto (-33)) 3 40 := ⟨by decide +kernel, rfl⟩
theorem kX1_freePlaces_40 : Dk mtX1_freePlaces 40 (.iload_n 1) 1 41 := ⟨by decide +kernel, rfl⟩
theorem kX1_freePlaces_41 : Dk mtX1_freePlaces 41 (.ireturn) 1 42 := ⟨by decide +kernel, rfl⟩
theorem lfX1_101 : LkF RX1 101 2 4 := Or.inr (by decide +kernel)
theorem lmX1_104 : LkM RX1 104 mtX2_servedCount := Or.inl (by decide +kernel)
set_option maxHeartbeats 4000000 in
set_option maxRecDepth 100000 in
theorem cl_freePlaces {l : Launch} {w : Wd} {sg : Sg} (hWr : Wr w) {c : Nat} {g : Gs} (hR : Rel sg c g) (hI : Inv g) : M l mtX1_freePlaces w [vR (some (1, 0, c))] sg (fI (F_room g (tn (g 4))) sg) := by
  refine M_of [some (vR (some (1, 0, c))), none, none, none] rfl (Nat.le_of_ble_eq_true rfl) (by decide +kernel) ?_
  intro p_ e_ s_ m_ args_ below_ meth_ c_ hC hO
  refine V_iconst hC (0) kX1_freePlaces_0 (by decide) ?_
  refine V_istore_n hC [some _, some _, none, none] kX1_freePlaces_1 rfl (Nat.le_of_ble_eq_true rfl) ?_
  refine V_iconst hC (0) kX1_freePlaces_2 (by decide) ?_
  refine V_istore_n hC [some _, some _, some _, none] kX1_freePlaces_3 rfl (Nat.le_of_ble_eq_true rfl) ?_
  refine V_loop (tn (g 4)) (fun i => [some (vR (some (1, 0, c))), some (vI (F_room g i)), some (vI (nI i)), none]) (fun i => sg) rfl rfl ?_ (fun i hi ihi => ?_)
  · refine V_iload_n hC kX1_freePlaces_4 rfl ?_
    refine V_aload_n hC kX1_freePlaces_5 rfl ?_
    refine V_getI hC 1 3 lfX1_37 kX1_freePlaces_6 (Nat.le_of_ble_eq_true rfl) (Nat.le_of_ble_eq_true rfl) rfl ?_
    refine V_icmp_ge hC 40 kX1_freePlaces_9 (by decide) (fun h9 => ?_) (fun h9 => absurd h9 (not_not_intro (by rw [hR.c3]; exact cnt_le hI.hc4.1)))
    refine V_iload_n hC kX1_freePlaces_40 rfl ?_
    refine V_ireti hC rfl kX1_freePlaces_41 ?_
    exact ⟨by with_reducible rfl, by with_reducible rfl⟩
  · refine V_iload_n hC kX1_freePlaces_4 rfl ?_
    refine V_aload_n hC kX1_freePlaces_5 rfl ?_
    refine V_getI hC 1 3 lfX1_37 kX1_freePlaces_6 (Nat.le_of_ble_eq_true rfl) (Nat.le_of_ble_eq_true rfl) rfl ?_
    refine V_icmp_ge hC 40 kX1_freePlaces_9 (by decide) (fun h9 => absurd h9 (by rw [hR.c3]; exact cnt_lt hI.hc4.1 hi)) (fun h9 => ?_)
    refine V_aload_n hC kX1_freePlaces_12 rfl ?_
    refine V_iload_n hC kX1_freePlaces_13 rfl ?_
    refine V_cV_fR hC (cl_lightR hWr hR hI hi) mkX1_lightAt lmX1_62 kX1_freePlaces_14 (Nat.le_of_ble_eq_true rfl) rfl rfl rfl (Nat.le_of_ble_eq_true rfl) ⟨(Nat.le_of_ble_eq_true rfl), (Nat.le_of_ble_eq_true rfl)⟩ ⟨rfl, rfl⟩ ⟨(Nat.le_of_ble_eq_true rfl), (Nat.le_of_ble_eq_true rfl)⟩ ?_
    refine V_astore_n hC [some _, some _, some _, some _] kX1_freePlaces_17 rfl (Nat.le_of_ble_eq_true rfl) ?_
    refine V_aload_n hC kX1_freePlaces_18 rfl ?_
    refine V_ifnull hC 34 kX1_freePlaces_19 (by decide) (fun hq => by cases hq) (fun _ _ => ?_)
    refine V_iload_n hC kX1_freePlaces_22 rfl ?_
    refine V_aload_n hC kX1_freePlaces_23 rfl ?_
    refine V_getI hC 2 4 lfX1_101 kX1_freePlaces_24 (Nat.le_of_ble_eq_true rfl) (Nat.le_of_ble_eq_true rfl) rfl ?_
    refine V_aload_n hC kX1_freePlaces_27 rfl ?_
    refine V_cV_fI hC (cl_servedCount hWr) mkX2_servedCount lmX1_104 kX1_freePlaces_28 (Nat.le_of_ble_eq_true rfl) rfl rfl rfl (Nat.le_of_ble_eq_true rfl) ⟨(Nat.le_of_ble_eq_true rfl), (Nat.le_of_ble_eq_true rfl)⟩ ⟨rfl, rfl⟩ ⟨(Nat.le_of_ble_eq_true rfl), (Nat.le_of_ble_eq_true rfl)⟩ ?_
    refine V_isub hC kX1_freePlaces_31 ?_
    refine V_iadd hC kX1_freePlaces_32 ?_
    refine V_istore_n hC [some _, some _, some _, some _] kX1_freePlaces_33 rfl (Nat.le_of_ble_eq_true rfl) ?_
    refine V_iinc hC (_ + 1) [some _, some _, some _, some _] kX1_freePlaces_34 rfl rfl rfl (Nat.le_of_ble_eq_true rfl) ?_
    refine V_goto hC 4 kX1_freePlaces_37 (by decide) ?_
    refine V_drop 3 [_, _, _, none] rfl ?_
    refine V_eq ?_ rfl ihi
    rw [nI_succ, F_room, hR.l4 hI hi, hR.cnt hI hi]

