-- HOW cl_isPlace fI
-- HOW cl_isSpeed fI
-- HOW cl_isStrength fI
-- HOW cl_isTickCount fI
-- HOW cl_isSetting fI
-- HOW cl_isSlot fI
-- HOW cl_isSettingValue fI
-- HOW cl_shown fI
-- HOW cl_lbegin fV
-- HOW cl_lcopy fV
-- HOW cl_bcopy fV
-- HOW cl_lnum fI
-- HOW cl_bnum fI
-- HOW cl_bright fI
-- HOW cl_worth fI
-- HOW cl_bitCount fI
-- HOW cl_servedCount fI
-- HOW cl_takesHandedOn fI
-- HOW cl_takesOthers fI
-- HOW cl_bbegin fV
-- HOW cl_move fV
-- HOW cl_wishFor fV
-- HOW cl_lightR fR
-- HOW cl_lightN fR
-- HOW cl_boatR fR
-- HOW cl_boatN fR
-- HOW cl_setR fI
-- HOW cl_lightAt fR
-- HOW cl_lightAtNo fR
-- HOW cl_boatAt fR
-- HOW cl_boatAtNo fR
-- HOW cl_settingOf fI
-- HOW cl_servedBoats fI
-- HOW cl_talkingBoats fI
-- HOW cl_numberOf fI
-- HOW cl_brightest fI
-- HOW cl_isDark fI
-- HOW cl_freePlaces fI
-- HOW cl_lightFault fI
-- HOW cl_boatFault fI
-- HOW cl_steerFault fI
-- HOW cl_dimFault fI
-- HOW cl_leanFault fI
-- HOW cl_talkFault fI
-- HOW cl_putSpeed rI
-- HOW cl_putTalk rI
-- HOW cl_putLeaning rI
-- HOW cl_putStrength rI
-- HOW cl_putSetting rI
-- HOW cl_addLight rI
-- HOW cl_addBoat rI
-- HOW cl_tryLight rI
-- HOW cl_tryBoat rI
-- HOW cl_trySteer rI
-- HOW cl_tryTalk rI
-- HOW cl_tryLean rI
-- HOW cl_tryDim rI
-- HOW cl_serve rV
-- HOW cl_lose rV
-- HOW cl_bestWish fI
-- HOW cl_seekKeeper rV
-- HOW cl_ask rV
-- HOW cl_sail rV
-- HOW cl_pass rV
-- HOW cl_reset rV
-- HOW cl_copyFrom rV
-- HOW cl_stateAt fR
-- HOW cl_slotAt fR
-- HOW cl_hasStates fI
-- HOW cl_remember rV
-- HOW cl_takeBack rI
-- HOW cl_isKept fI
-- HOW cl_keep rV
-- HOW cl_bring rV
/-! the class: the states that are remembered, the slots -/
def mtX3_stateAt : Mt := (yX3_stateAt, cX3_stateAt, 3, (some (.object "LanternBoats$Coast")), 0, 0, 0, 0)
theorem kX3_stateAt_0 : Dk mtX3_stateAt 0 (.aload_n 0) 1 1 := ⟨by decide +kernel, rfl⟩
theorem kX3_stateAt_1 : Dk mtX3_stateAt 1 (.getfield 26) 3 4 := ⟨by decide +kernel, rfl⟩
theorem kX3_stateAt_4 : Dk mtX3_stateAt 4 (.iload_n 1) 1 5 := ⟨by decide +kernel, rfl⟩
theorem kX3_stateAt_5 : Dk mtX3_stateAt 5 (.iadd) 1 6 := ⟨by decide +kernel, rfl⟩
theorem kX3_stateAt_6 : Dk mtX3_stateAt 6 (.bipush 14) 2 8 := ⟨by decide +kernel, rfl⟩
theorem kX3_stateAt_8 : Dk mtX3_stateAt 8 (.irem) 1 9 := ⟨by decide +kernel, rfl⟩
theorem kX3_stateAt_9 : Dk mtX3_stateAt 9 (.istore_n 2) 1 10 := ⟨by decide +kernel, rfl⟩
theorem kX3_stateAt_10 : Dk mtX3_stateAt 10 (.iload_n 1) 1 11 := ⟨by decide +kernel, rfl⟩
theorem kX3_stateAt_11 : Dk mtX3_stateAt 11 (.ifCond .lt 25) 3 14 := ⟨by decide +kernel, rfl⟩
theorem kX3_stateAt_14 : Dk mtX3_stateAt 14 (.iload_n 2) 1 15 := ⟨by decide +kernel, rfl⟩
theorem kX3_stateAt_15 : Dk mtX3_stateAt 15 (.ifCond .lt 21) 3 18 := ⟨by decide +kernel, rfl⟩
theorem kX3_stateAt_18 : Dk mtX3_stateAt 18 (.iload_n 2) 1 19 := ⟨by decide +kernel, rfl⟩
theorem kX3_stateAt_19 : Dk mtX3_stateAt 19 (.aload_n 0) 1 20 := ⟨by decide +kernel, rfl⟩
theorem kX3_stateAt_20 : Dk mtX3_stateAt 20 (.getfield 11) 3 23 := ⟨by decide +kernel, rfl⟩
theorem kX3_stateAt_23 : Dk mtX3_stateAt 23 (.arraylength) 1 24 := ⟨by decide +kernel, rfl⟩
theorem kX3_stateAt_24 : Dk mtX3_stateAt 24 (.if_icmp .ge 12) 3 27 := ⟨by decide +kernel, rfl⟩
theorem kX3_stateAt_27 : Dk mtX3_stateAt 27 (.aload_n 0) 1 28 := ⟨by decide +kernel, rfl⟩
theorem kX3_stateAt_28 : Dk mtX3_stateAt 28 (.getfield 11) 3 31 := ⟨by decide +kernel, rfl⟩
theorem kX3_stateAt_31 : Dk mtX3_stateAt 31 (.iload_n 2) 1 32 := ⟨by decide +kernel, rfl⟩
theorem kX3_stateAt_32 : Dk mtX3_stateAt 32 (.aaload) 1 33 := ⟨by decide +kernel, rfl⟩
theorem kX3_stateAt_33 : Dk mtX3_stateAt 33 (.goto 4) 3 36 := ⟨by decide +kernel, rfl⟩
theorem kX3_stateAt_37 : Dk mtX3_stateAt 37 (.areturn) 1 38 := ⟨by decide +kernel, rfl⟩
theorem lfX3_26 : LkF RX3 26 3 2 := Or.inl (by decide +kernel)
theorem lfX3_11 : LkF RX3 11 3 0 := Or.inl (by decide +kernel)
set_option maxHeartbeats 4000000 in
set_option maxRecDepth 100000 in
theorem cl_stateAt {l : Launch} {w : Wd} {sg : Sg} (hWr : Wr w) {y f i : Nat} {a : Int32} (hf : f < 14) (ef : sg y 2 = nI f) (hi : i < 14) (ea : a = nI i) : M l mtX3_stateAt w [vR (some (3, 0, y)), vI a] sg (fR (some (1, 0, (y + 2 + 18 * ((f + i) % 14)))) sg) := by
  refine M_of [some (vR (some (3, 0, y))), some (vI a), none] rfl (Nat.le_of_ble_eq_true rfl) (by decide +kernel) ?_
  intro p_ e_ s_ m_ args_ below_ meth_ c_ hC hO
  subst ea
  refine V_aload_n hC kX3_stateAt_0 rfl ?_
  refine V_getI hC 3 2 lfX3_26 kX3_stateAt_1 (Nat.le_of_ble_eq_true rfl) (Nat.le_of_ble_eq_true rfl) rfl ?_
  refine V_iload_n hC kX3_stateAt_4 rfl ?_
  refine V_iadd hC kX3_stateAt_5 ?_
  refine V_bipush hC (14) kX3_stateAt_6 (by decide) ?_
  refine V_irem hC kX3_stateAt_8 (by decide) ?_
  refine V_nameI (fun at1 e_at1 => ?_)
  refine V_istore_n hC [some _, some _, some _] kX3_stateAt_9 rfl (Nat.le_of_ble_eq_true rfl) ?_
  replace e_at1 : at1 = nI ((f + i) % 14) := e_at1.trans (by rw [ef, nI_add, show (14 : Int32) = nI 14 from rfl, pk_rem (by omega) (by decide) (by decide)])
  subst e_at1
  have h14 := m14 (f + i)
  refine V_iload_n hC kX3_stateAt_10 rfl ?_
  refine V_if_lt hC 36 kX3_stateAt_11 (by decide) (fun h11 => absurd h11 (Int32.not_lt.mpr (nI_pos' (by omega)))) (fun h11 => ?_)
  refine V_iload_n hC kX3_stateAt_14 rfl ?_
  refine V_if_lt hC 36 kX3_stateAt_15 (by decide) (fun h15 => absurd h15 (Int32.not_lt.mpr (nI_pos' (by omega)))) (fun h15 => ?_)
  refine V_iload_n hC kX3_stateAt_18 rfl ?_
  refine V_aload_n hC kX3_stateAt_19 rfl ?_
  refine V_getR hC hWr 3 0 lfX3_11 kX3_stateAt_20 (Nat.le_of_ble_eq_true rfl) (Nat.le_of_ble_eq_true rfl) rfl ?_
  refine V_alen hC _ kX3_stateAt_23 ⟨(Nat.le_of_ble_eq_true rfl), (Nat.le_of_ble_eq_true rfl)⟩ rfl ?_
  refine V_icmp_ge hC 36 kX3_stateAt_24 (by decide) (fun h24 => absurd h24 (nI_ge h14 (by decide))) (fun h24 => ?_)
  refine V_aload_n hC kX3_stateAt_27 rfl ?_
  refine V_getR hC hWr 3 0 lfX3_11 kX3_stateAt_28 (Nat.le_of_ble_eq_true rfl) (Nat.le_of_ble_eq_true rfl) rfl ?_
  refine V_iload_n hC kX3_stateAt_31 rfl ?_
  refine V_aald hC hWr kX3_stateAt_32 ⟨(Nat.le_of_ble_eq_true rfl), (Nat.le_of_ble_eq_true rfl)⟩ (vp_in_nI h14 (by decide)) (by rw [nI_clamp (by omega)]; rfl) ?_
  refine V_goto hC 37 kX3_stateAt_33 (by decide) ?_
  refine V_aret hC rfl (Or.inl ⟨_, rfl⟩) kX3_stateAt_37 ?_
  refine ⟨?_, by with_reducible rfl⟩
  rw [show y + 1 + 1 + 18 * ((f + i) % 14) = (y + 2 + 18 * ((f + i) % 14)) by omega]
def mtX3_slotAt : Mt := (yX3_slotAt, cX3_slotAt, 2, (some (.object "LanternBoats$Coast")), 0, 0, 0, 0)
theorem kX3_slotAt_0 : Dk mtX3_slotAt 0 (.iload_n 1) 1 1 := ⟨by decide +kernel, rfl⟩
theorem kX3_slotAt_1 : Dk mtX3_slotAt 1 (.ifCond .lt 21) 3 4 := ⟨by decide +kernel, rfl⟩
theorem kX3_slotAt_4 : Dk mtX3_slotAt 4 (.iload_n 1) 1 5 := ⟨by decide +kernel, rfl⟩
theorem kX3_slotAt_5 : Dk mtX3_slotAt 5 (.aload_n 0) 1 6 := ⟨by decide +kernel, rfl⟩
theorem kX3_slotAt_6 : Dk mtX3_slotAt 6 (.getfield 16) 3 9 := ⟨by decide +kernel, rfl⟩
theorem kX3_slotAt_9 : Dk mtX3_slotAt 9 (.arraylength) 1 10 := ⟨by decide +kernel, rfl⟩
theorem kX3_slotAt_10 : Dk mtX3_slotAt 10 (.if_icmp .ge 12) 3 13 := ⟨by decide +kernel, rfl⟩
theorem kX3_slotAt_13 : Dk mtX3_slotAt 13 (.aload_n 0) 1 14 := ⟨by decide +kernel, rfl⟩
theorem kX3_slotAt_14 : Dk mtX3_slotAt 14 (.getfield 16) 3 17 := ⟨by decide +kernel, rfl⟩
theorem kX3_slotAt_17 : Dk mtX3_slotAt 17 (.iload_n 1) 1 18 := ⟨by decide +kernel, rfl⟩
theorem kX3_slotAt_18 : Dk mtX3_slotAt 18 (.aaload) 1 19 := ⟨by decide +kernel, rfl⟩
theorem kX3_slotAt_19 : Dk mtX3_slotAt 19 (.goto 4) 3 22 := ⟨by decide +kernel, rfl⟩
theorem kX3_slotAt_23 : Dk mtX3_slotAt 23 (.areturn) 1 24 := ⟨by decide +kernel, rfl⟩
theorem lfX3_16 : LkF RX3 16 3 1 := Or.inl (by decide +kernel)
set_option maxHeartbeats 4000000 in
set_option maxRecDepth 100000 in
theorem cl_slotAt {l : Launch} {w : Wd} {sg : Sg} (hWr : Wr w) {y j : Nat} {a : Int32} (hj : j < 2) (ea : a = nI j) : M l mtX3_slotAt w [vR (some (3, 0, y)), vI a] sg (fR (some (1, 0, (y + 255 + 18 * j))) sg) := by
  refine M_of [some (vR (some (3, 0, y))), some (vI a)] rfl (Nat.le_of_ble_eq_true rfl) (by decide +kernel) ?_
  intro p_ e_ s_ m_ args_ below_ meth_ c_ hC hO
  subst ea
  refine V_iload_n hC kX3_slotAt_0 rfl ?_
  refine V_if_lt hC 22 kX3_slotAt_1 (by decide) (fun h1 => absurd h1 (Int32.not_lt.mpr (nI_pos' (by omega)))) (fun h1 => ?_)
  refine V_iload_n hC kX3_slotAt_4 rfl ?_
  refine V_aload_n hC kX3_slotAt_5 rfl ?_
  refine V_getR hC hWr 3 1 lfX3_16 kX3_slotAt_6 (Nat.le_of_ble_eq_true rfl) (Nat.le_of_ble_eq_true rfl) rfl ?_
  refine V_alen hC _ kX3_slotAt_9 ⟨(Nat.le_of_ble_eq_true rfl), (Nat.le_of_ble_eq_true rfl)⟩ rfl ?_
  refine V_icmp_ge hC 22 kX3_slotAt_10 (by decide) (fun h10 => absurd h10 (nI_ge hj (by decide))) (fun h10 => ?_)
  refine V_aload_n hC kX3_slotAt_13 rfl ?_
  refine V_getR hC hWr 3 1 lfX3_16 kX3_slotAt_14 (Nat.le_of_ble_eq_true rfl) (Nat.le_of_ble_eq_true rfl) rfl ?_
  refine V_iload_n hC kX3_slotAt_17 rfl ?_
  refine V_aald hC hWr kX3_slotAt_18 ⟨(Nat.le_of_ble_eq_true rfl), (Nat.le_of_ble_eq_true rfl)⟩ (vp_in_nI hj (by decide)) (by rw [nI_clamp (by omega)]; rfl) ?_
  refine V_goto hC 23 kX3_slotAt_19 (by decide) ?_
  refine V_aret hC rfl (Or.inl ⟨_, rfl⟩) kX3_slotAt_23 ?_
  refine ⟨?_, by with_reducible rfl⟩
  rw [show y + 254 + 1 + 18 * j = (y + 255 + 18 * j) by omega]
def mtX3_hasStates : Mt := (yX3_hasStates, cX3_hasStates, 1, (some .boolean), 0, 0, 0, 0)
theorem kX3_hasStates_0 : Dk mtX3_hasStates 0 (.aload_n 0) 1 1 := ⟨by decide +kernel, rfl⟩
theorem kX3_hasStates_1 : Dk mtX3_hasStates 1 (.getfield 19) 3 4 := ⟨by decide +kernel, rfl⟩
theorem kX3_hasStates_4 : Dk mtX3_hasStates 4 (.ifCond .le 7) 3 7 := ⟨by decide +kernel, rfl⟩
theorem kX3_hasStates_7 : Dk mtX3_hasStates 7 (.iconst 1) 1 8 := ⟨by decide +kernel, rfl⟩
theorem kX3_hasStates_8 : Dk mtX3_hasStates 8 (.goto 4) 3 11 := ⟨by decide +kernel, rfl⟩
theorem kX3_hasStates_11 : Dk mtX3_hasStates 11 (.iconst 0) 1 12 := ⟨by decide +kernel, rfl⟩
theorem kX3_hasStates_12 : Dk mtX3_hasStates 12 (.ireturn) 1 13 := ⟨by decide +kernel, rfl⟩
theorem lfX3_19 : LkF RX3 19 3 3 := Or.inl (by decide +kernel)
set_option maxHeartbeats 4000000 in
set_option maxRecDepth 100000 in
theorem cl_hasStates {l : Launch} {w : Wd} {sg : Sg} (hWr : Wr w) {y n : Nat} {G : Nat → Gs} {K : Nat → Bool} {S : Nat → Gs} (hm : MRel sg y n G K S) : M l mtX3_hasStates w [vR (some (3, 0, y))] sg (fI (b01 (¬ n = 0)) sg) := by
  refine M_of [some (vR (some (3, 0, y)))] rfl (Nat.le_of_ble_eq_true rfl) (by decide +kernel) ?_
  intro p_ e_ s_ m_ args_ below_ meth_ c_ hC hO
  obtain ⟨f, m1, m2, m3, m4, m5, m6, m7, m8, m9⟩ := hm
  refine V_aload_n hC kX3_hasStates_0 rfl ?_
  refine V_getI hC 3 3 lfX3_19 kX3_hasStates_1 (Nat.le_of_ble_eq_true rfl) (Nat.le_of_ble_eq_true rfl) rfl ?_
  refine V_if_le hC 11 kX3_hasStates_4 (by decide) (fun h4 => ?_) (fun h4 => ?_)
  · refine V_iconst hC (0) kX3_hasStates_11 (by decide) ?_
    refine V_iretz hC rfl kX3_hasStates_12 ?_ ?_
    · first | exact Or.inl rfl | exact Or.inr rfl
    · refine ⟨cI ?_, by with_reducible rfl⟩
      rw [m4] at h4
      first
      | exact (b01_f (fun z => h4 (by exact (nI_ltI (a := 0) (by decide) (by omega)).mpr (by omega)))).symm
      | exact (b01_f (fun z => absurd ((nI_ltI (a := 0) (by decide) (by omega)).mpr (by omega : 0 < n)) (Int32.not_lt.mpr h4))).symm
      | exact (b01_t (c := ¬ n = 0) (fun z => h4 (by rw [z]; exact Int32.le_refl _))).symm
  · refine V_iconst hC (1) kX3_hasStates_7 (by decide) ?_
    refine V_goto hC 12 kX3_hasStates_8 (by decide) ?_
    refine V_iretz hC rfl kX3_hasStates_12 ?_ ?_
    · first | exact Or.inl rfl | exact Or.inr rfl
    · refine ⟨cI ?_, by with_reducible rfl⟩
      rw [m4] at h4
      first
      | exact (b01_f (fun z => h4 (by exact (nI_ltI (a := 0) (by decide) (by omega)).mpr (by omega)))).symm
      | exact (b01_f (fun z => absurd ((nI_ltI (a := 0) (by decide) (by omega)).mpr (by omega : 0 < n)) (Int32.not_lt.mpr h4))).symm
      | exact (b01_t (c := ¬ n = 0) (fun z => h4 (by rw [z]; exact Int32.le_refl _))).symm
theorem lfX3_23 : LkF RX3 23 3 4 := Or.inl (by decide +kernel)
def nPush (n : Nat) : Nat := if n = 14 then 14 else n + 1
def gPush (G : Nat → Gs) (n : Nat) (g : Gs) : Nat → Gs := if n = 14 then Gpush (fun i => G (i + 1)) 13 g else Gpush G n g
theorem nPush_14 : nPush 14 = 13 + 1 := rfl
theorem nPush_n {n : Nat} (h : ¬ n = 14) : nPush n = n + 1 := if_neg h
theorem gPush_14 (G : Nat → Gs) (g : Gs) : gPush G 14 g = Gpush (fun i => G (i + 1)) 13 g := if_pos rfl
theorem gPush_n (G : Nat → Gs) {n : Nat} (g : Gs) (h : ¬ n = 14) : gPush G n g = Gpush G n g := if_neg h
def mtX3_remember : Mt := (yX3_remember, cX3_remember, 3, none, 2, 45, 0, 0)
theorem kX3_remember_0 : Dk mtX3_remember 0 (.aload_n 0) 1 1 := ⟨by decide +kernel, rfl⟩
theorem kX3_remember_1 : Dk mtX3_remember 1 (.getfield 19) 3 4 := ⟨by decide +kernel, rfl⟩
theorem kX3_remember_4 : Dk mtX3_remember 4 (.bipush 14) 2 6 := ⟨by decide +kernel, rfl⟩
theorem kX3_remember_6 : Dk mtX3_remember 6 (.if_icmp .ne 26) 3 9 := ⟨by decide +kernel, rfl⟩
theorem kX3_remember_9 : Dk mtX3_remember 9 (.aload_n 0) 1 10 := ⟨by decide +kernel, rfl⟩
theorem kX3_remember_10 : Dk mtX3_remember 10 (.aload_n 0) 1 11 := ⟨by decide +kernel, rfl⟩
theorem kX3_remember_11 : Dk mtX3_remember 11 (.getfield 26) 3 14 := ⟨by decide +kernel, rfl⟩
theorem kX3_remember_14 : Dk mtX3_remember 14 (.iconst 1) 1 15 := ⟨by decide +kernel, rfl⟩
theorem kX3_remember_15 : Dk mtX3_remember 15 (.iadd) 1 16 := ⟨by decide +kernel, rfl⟩
theorem kX3_remember_16 : Dk mtX3_remember 16 (.bipush 14) 2 18 := ⟨by decide +kernel, rfl⟩
theorem kX3_remember_18 : Dk mtX3_remember 18 (.irem) 1 19 := ⟨by decide +kernel, rfl⟩
theorem kX3_remember_19 : Dk mtX3_remember 19 (.putfield 26) 3 22 := ⟨by decide +kernel, rfl⟩
theorem kX3_remember_22 : Dk mtX3_remember 22 (.aload_n 0) 1 23 := ⟨by decide +kernel, rfl⟩
theorem kX3_remember_23 : Dk mtX3_remember 23 (.dup) 1 24 := ⟨by decide +kernel, rfl⟩
theorem kX3_remember_24 : Dk mtX3_remember 24 (.getfield 19) 3 27 := ⟨by decide +kernel, rfl⟩
theorem kX3_remember_27 : Dk mtX3_remember 27 (.iconst 1) 1 28 := ⟨by decide +kernel, rfl⟩
theorem kX3_remember_28 : Dk mtX3_remember 28 (.isub) 1 29 := ⟨by decide +kernel, rfl⟩
theorem kX3_remember_29 : Dk mtX3_remember 29 (.putfield 19) 3 32 := ⟨by decide +kernel, rfl⟩
theorem kX3_remember_32 : Dk mtX3_remember 32 (.aload_n 0) 1 33 := ⟨by decide +kernel, rfl⟩
theorem kX3_remember_33 : Dk mtX3_remember 33 (.aload_n 0) 1 34 := ⟨by decide +kernel, rfl⟩
theorem kX3_remember_34 : Dk mtX3_remember 34 (.getfield 19) 3 37 := ⟨by decide +kernel, rfl⟩
theorem kX3_remember_37 : Dk mtX3_remember 37 (.invokevirtual 29) 3 40 := ⟨by decide +kernel, rfl⟩
theorem kX3_remember_40 : Dk mtX3_remember 40 (.astore_n 2) 1 41 := ⟨by decide +kernel, rfl⟩
theorem kX3_remember_41 : Dk mtX3_remember 41 (.aload_n 2) 1 42 := ⟨by decide +kernel, rfl⟩
theorem kX3_remember_42 : Dk mtX3_remember 42 (.ifnull 18) 3 45 := ⟨by decide +kernel, rfl⟩
theorem kX3_remember_45 : Dk mtX3_remember 45 (.aload_n 2) 1 46 := ⟨by decide +kernel, rfl⟩
theorem kX3_remember_46 : Dk mtX3_remember 46 (.aload_n 1) 1 47 := ⟨by decide +kernel, rfl⟩
theorem kX3_remember_47 : Dk mtX3_remember 47 (.invokevirtual 33) 3 50 := ⟨by decide +kernel, rfl⟩
theorem kX3_remember_50 : Dk mtX3_remember 50 (.aload_n 0) 1 51 := ⟨by decide +kernel, rfl⟩
theorem kX3_remember_51 : Dk mtX3_remember 51 (.dup) 1 52 := ⟨by decide +kernel, rfl⟩
theorem kX3_remember_52 : Dk mtX3_remember 52 (.getfield 19) 3 55 := ⟨by decide +kernel, rfl⟩
theorem kX3_remember_55 : Dk mtX3_remember 55 (.iconst 1) 1 56 := ⟨by decide +kernel, rfl⟩
theorem kX3_remember_56 : Dk mtX3_remember 56 (.iadd) 1 57 := ⟨by decide +kernel, rfl⟩
theorem kX3_remember_57 : Dk mtX3_remember 57 (.putfield 19) 3 60 := ⟨by decide +kernel, rfl⟩
theorem kX3_remember_60 : Dk mtX3_remember 60 (.return_) 1 61 := ⟨by decide +kernel, rfl⟩
theorem lmX3_29 : LkM RX3 29 mtX3_stateAt := Or.inl (by decide +kernel)
theorem mkX3_stateAt : MkV mtX3_stateAt 1 := ⟨List.mem_of_getElem? (i := 396) (by decide +kernel), by decide +kernel, by decide +kernel, by decide +kernel, ⟨by decide +kernel, by decide +kernel, by decide +kernel⟩⟩
theorem lmX3_33 : LkM RX3 33 mtX1_copyFrom := Or.inl (by decide +kernel)
theorem mkX1_copyFrom : MkV mtX1_copyFrom 1 := ⟨List.mem_of_getElem? (i := 400) (by decide +kernel), by decide +kernel, by decide +kernel, by decide +kernel, ⟨by decide +kernel, by decide +kernel, by decide +kernel⟩⟩
set_option maxHeartbeats 4000000 in
set_option maxRecDepth 100000 in
theorem cl_remember {l : Launch} {w : Wd} {sg : Sg} (hWr : Wr w) {y n : Nat} {G : Nat → Gs} {K : Nat → Bool} {S : Nat → Gs} (hm : MRel sg y n G K S) {c : Nat} {g : Gs} (hR : Rel sg c g) (hI : Inv g) (hd : c + 18 ≤ y ∨ y + 291 ≤ c) : M l mtX3_remember w [vR (some (3, 0, y)), vR (some (1, 0, c))] sg (rV (fun sg2 => MRel sg2 y (nPush n) (gPush G n g) K S ∧ ∀ k, (k < y ∨ y + 291 ≤ k) → sg2 k = sg k)) := by
  refine M_of [some (vR (some (3, 0, y))), some (vR (some (1, 0, c))), none] rfl (Nat.le_of_ble_eq_true rfl) (by decide +kernel) ?_
  intro p_ e_ s_ m_ args_ below_ meth_ c_ hC hO
  obtain ⟨f, m1, m2, m3, m4, m5, m6, m7, m8, m9⟩ := hm
  rcases Nat.eq_or_lt_of_le m2 with rfl | hlt
  · rw [nPush_14, gPush_14]
    refine V_aload_n hC kX3_remember_0 rfl ?_
    refine V_getI hC 3 3 lfX3_19 kX3_remember_1 (Nat.le_of_ble_eq_true rfl) (Nat.le_of_ble_eq_true rfl) rfl ?_
    refine V_bipush hC (14) kX3_remember_4 (by decide) ?_
    refine V_icmp_ne hC 32 kX3_remember_6 (by decide) (fun h6 => absurd h6 (not_not_intro (by rw [m4]; rfl))) (fun h6 => ?_)
    refine V_aload_n hC kX3_remember_9 rfl ?_
    refine V_aload_n hC kX3_remember_10 rfl ?_
    refine V_getI hC 3 2 lfX3_26 kX3_remember_11 (Nat.le_of_ble_eq_true rfl) (Nat.le_of_ble_eq_true rfl) rfl ?_
    refine V_iconst hC (1) kX3_remember_14 (by decide) ?_
    refine V_iadd hC kX3_remember_15 ?_
    refine V_bipush hC (14) kX3_remember_16 (by decide) ?_
    refine V_irem hC kX3_remember_18 (by decide) ?_
    refine V_putI hC 3 2 lfX3_26 kX3_remember_19 (Nat.le_of_ble_eq_true rfl) (Nat.le_of_ble_eq_true rfl) rfl rfl ⟨rfl, rfl⟩ ?_
    refine V_aload_n hC kX3_remember_22 rfl ?_
    refine V_dup hC kX3_remember_23 rfl ?_
    refine V_getI hC 3 3 lfX3_19 kX3_remember_24 (Nat.le_of_ble_eq_true rfl) (Nat.le_of_ble_eq_true rfl) rfl ?_
    refine V_iconst hC (1) kX3_remember_27 (by decide) ?_
    refine V_isub hC kX3_remember_28 ?_
    refine V_putI hC 3 3 lfX3_19 kX3_remember_29 (Nat.le_of_ble_eq_true rfl) (Nat.le_of_ble_eq_true rfl) rfl rfl ⟨rfl, rfl⟩ ?_
    refine V_nameS (fun s1 e_s1 => ?_)
    have hn13 : (13 : Nat) < 14 := by decide
    have e2 : s1 y 2 = nI ((f + 1) % 14) := by
      rw [e_s1, ups_v, if_neg (by omega), ups_v, if_pos ⟨rfl, rfl⟩, m3, nI_1, show (14 : Int32) = nI 14 from rfl, pk_rem (by omega) (by decide) (by decide)]
    have e3 : s1 y 3 = nI 13 := by
      rw [e_s1, ups_v, if_pos ⟨rfl, rfl⟩, ups_v, if_neg (by omega), m4]
      exact nI_pred 13
    have e4 : s1 y 4 = sg y 4 := by rw [e_s1, ups_v, if_neg (by omega), ups_v, if_neg (by omega)]
    have eo : ∀ k, k ≠ y → s1 k = sg k := fun k hk => by rw [e_s1, ups_ne _ _ _ hk, ups_ne _ _ _ hk]
    have hf2 : (f + 1) % 14 < 14 := m14 _
    have hG := MRel.shift m1 m5
    clear e_s1
    refine V_aload_n hC kX3_remember_32 rfl ?_
    refine V_aload_n hC kX3_remember_33 rfl ?_
    refine V_getI hC 3 3 lfX3_19 kX3_remember_34 (Nat.le_of_ble_eq_true rfl) (Nat.le_of_ble_eq_true rfl) rfl ?_
    refine V_cV_fR hC (cl_stateAt hWr hf2 e2 hn13 e3) mkX3_stateAt lmX3_29 kX3_remember_37 (Nat.le_of_ble_eq_true rfl) rfl rfl rfl (Nat.le_of_ble_eq_true rfl) ⟨(Nat.le_of_ble_eq_true rfl), (Nat.le_of_ble_eq_true rfl)⟩ ⟨rfl, rfl⟩ ⟨(Nat.le_of_ble_eq_true rfl), (Nat.le_of_ble_eq_true rfl)⟩ ?_
    refine V_astore_n hC [some _, some _, some _] kX3_remember_40 rfl (Nat.le_of_ble_eq_true rfl) ?_
    refine V_aload_n hC kX3_remember_41 rfl ?_
    refine V_ifnull hC 60 kX3_remember_42 (by decide) (fun hq => by cases hq) (fun _ _ => ?_)
    refine V_aload_n hC kX3_remember_45 rfl ?_
    refine V_aload_n hC kX3_remember_46 rfl ?_
    refine V_cV_rV hC (cl_copyFrom hWr (c := ((y + 2 + 18 * ((((f + 1) % 14) + 13) % 14)))) (c2 := c) (hR.fr hI.cn (fun k a b => eo k (by omega))) hI (by have := m14 (((f + 1) % 14) + 13); omega) ((m6 _ (m14 (((f + 1) % 14) + 13))).fr (fun k a b => eo k (by omega)))) mkX1_copyFrom lmX3_33 kX3_remember_47 (Nat.le_of_ble_eq_true rfl) rfl rfl rfl (Nat.le_of_ble_eq_true rfl) ⟨(Nat.le_of_ble_eq_true rfl), (Nat.le_of_ble_eq_true rfl)⟩ ⟨rfl, rfl⟩ ⟨(Nat.le_of_ble_eq_true rfl), (Nat.le_of_ble_eq_true rfl)⟩ (fun g47 h47 => ?_)
    refine V_aload_n hC kX3_remember_50 rfl ?_
    refine V_dup hC kX3_remember_51 rfl ?_
    refine V_getI hC 3 3 lfX3_19 kX3_remember_52 (Nat.le_of_ble_eq_true rfl) (Nat.le_of_ble_eq_true rfl) rfl ?_
    refine V_iconst hC (1) kX3_remember_55 (by decide) ?_
    refine V_iadd hC kX3_remember_56 ?_
    refine V_putI hC 3 3 lfX3_19 kX3_remember_57 (Nat.le_of_ble_eq_true rfl) (Nat.le_of_ble_eq_true rfl) rfl rfl ⟨rfl, rfl⟩ ?_
    refine V_vret hC rfl kX3_remember_60 ?_
    obtain ⟨hR2, hF2⟩ := h47
    have h14 := m14 (((f + 1) % 14) + 13)
    refine ⟨by with_reducible rfl, ?_, fun k hk => ?_⟩
    · have hP : MRel (ups g47 y 3 (g47 y 3 + 1)) y (13 + 1) (Gpush (fun i => G (i + 1)) 13 g) K S := by
        refine MRel.push (sg := sg) (f := ((f + 1) % 14)) hf2 hn13 ?_ ?_ hG m6 m7 (fun i hi => ?_) m9 (hR2.fr hI.cn (fun k a b => ups_ne _ _ _ (by omega))) hI (fun k a b d => ?_)
        · rw [ups_v, if_neg (by omega), hF2 _ (by omega), e2]
        · rw [ups_v, if_pos ⟨rfl, rfl⟩, hF2 _ (by omega), e3, nI_1]
        · rw [ups_v, if_neg (by omega), hF2 _ (by omega), e4, m8 i hi]
        · rw [ups_ne _ _ _ (by omega), hF2 _ (by omega), eo _ (by omega)]
      exact hP
    · rw [ups_ne _ _ _ (by omega), hF2 _ (by omega), eo _ (by omega)]
  · have hne : ¬ n = 14 := by omega
    rw [nPush_n hne, gPush_n G g hne]
    refine V_aload_n hC kX3_remember_0 rfl ?_
    refine V_getI hC 3 3 lfX3_19 kX3_remember_1 (Nat.le_of_ble_eq_true rfl) (Nat.le_of_ble_eq_true rfl) rfl ?_
    refine V_bipush hC (14) kX3_remember_4 (by decide) ?_
    refine V_icmp_ne hC 32 kX3_remember_6 (by decide) (fun h6 => ?_) (fun h6 => absurd h6 (fun z => hne ((nI_eq (by omega) (by decide)).mp ((m4.symm.trans z).trans (show (14 : Int32) = nI 14 from rfl)))))
    refine V_nameS (fun s1 e_s1 => ?_)
    have hn13 : n < 14 := by omega
    have e2 : s1 y 2 = nI f := by rw [e_s1, m3]
    have e3 : s1 y 3 = nI n := by rw [e_s1, m4]
    have e4 : s1 y 4 = sg y 4 := by rw [e_s1]
    have eo : ∀ k, k ≠ y → s1 k = sg k := fun k hk => by rw [e_s1]
    have hf2 := m1
    have hG := m5
    clear e_s1
    refine V_aload_n hC kX3_remember_32 rfl ?_
    refine V_aload_n hC kX3_remember_33 rfl ?_
    refine V_getI hC 3 3 lfX3_19 kX3_remember_34 (Nat.le_of_ble_eq_true rfl) (Nat.le_of_ble_eq_true rfl) rfl ?_
    refine V_cV_fR hC (cl_stateAt hWr hf2 e2 hn13 e3) mkX3_stateAt lmX3_29 kX3_remember_37 (Nat.le_of_ble_eq_true rfl) rfl rfl rfl (Nat.le_of_ble_eq_true rfl) ⟨(Nat.le_of_ble_eq_true rfl), (Nat.le_of_ble_eq_true rfl)⟩ ⟨rfl, rfl⟩ ⟨(Nat.le_of_ble_eq_true rfl), (Nat.le_of_ble_eq_true rfl)⟩ ?_
    refine V_astore_n hC [some _, some _, some _] kX3_remember_40 rfl (Nat.le_of_ble_eq_true rfl) ?_
    refine V_aload_n hC kX3_remember_41 rfl ?_
    refine V_ifnull hC 60 kX3_remember_42 (by decide) (fun hq => by cases hq) (fun _ _ => ?_)
    refine V_aload_n hC kX3_remember_45 rfl ?_
    refine V_aload_n hC kX3_remember_46 rfl ?_
    refine V_cV_rV hC (cl_copyFrom hWr (c := ((y + 2 + 18 * ((f + n) % 14)))) (c2 := c) (hR.fr hI.cn (fun k a b => eo k (by omega))) hI (by have := m14 (f + n); omega) ((m6 _ (m14 (f + n))).fr (fun k a b => eo k (by omega)))) mkX1_copyFrom lmX3_33 kX3_remember_47 (Nat.le_of_ble_eq_true rfl) rfl rfl rfl (Nat.le_of_ble_eq_true rfl) ⟨(Nat.le_of_ble_eq_true rfl), (Nat.le_of_ble_eq_true rfl)⟩ ⟨rfl, rfl⟩ ⟨(Nat.le_of_ble_eq_true rfl), (Nat.le_of_ble_eq_true rfl)⟩ (fun g47 h47 => ?_)
    refine V_aload_n hC kX3_remember_50 rfl ?_
    refine V_dup hC kX3_remember_51 rfl ?_
    refine V_getI hC 3 3 lfX3_19 kX3_remember_52 (Nat.le_of_ble_eq_true rfl) (Nat.le_of_ble_eq_true rfl) rfl ?_
    refine V_iconst hC (1) kX3_remember_55 (by decide) ?_
    refine V_iadd hC kX3_remember_56 ?_
    refine V_putI hC 3 3 lfX3_19 kX3_remember_57 (Nat.le_of_ble_eq_true rfl) (Nat.le_of_ble_eq_true rfl) rfl rfl ⟨rfl, rfl⟩ ?_
    refine V_vret hC rfl kX3_remember_60 ?_
    obtain ⟨hR2, hF2⟩ := h47
    have h14 := m14 (f + n)
    refine ⟨by with_reducible rfl, ?_, fun k hk => ?_⟩
    · have hP : MRel (ups g47 y 3 (g47 y 3 + 1)) y (n + 1) (Gpush G n g) K S := by
        refine MRel.push (sg := sg) (f := f) hf2 hn13 ?_ ?_ hG m6 m7 (fun i hi => ?_) m9 (hR2.fr hI.cn (fun k a b => ups_ne _ _ _ (by omega))) hI (fun k a b d => ?_)
        · rw [ups_v, if_neg (by omega), hF2 _ (by omega), e2]
        · rw [ups_v, if_pos ⟨rfl, rfl⟩, hF2 _ (by omega), e3, nI_1]
        · rw [ups_v, if_neg (by omega), hF2 _ (by omega), e4, m8 i hi]
        · rw [ups_ne _ _ _ (by omega), hF2 _ (by omega), eo _ (by omega)]
      exact hP
    · rw [ups_ne _ _ _ (by omega), hF2 _ (by omega), eo _ (by omega)]
def mtX3_takeBack : Mt := (yX3_takeBack, cX3_takeBack, 3, (some .int), 2, 45, 0, 0)
theorem kX3_takeBack_0 : Dk mtX3_takeBack 0 (.aload_n 0) 1 1 := ⟨by decide +kernel, rfl⟩
theorem kX3_takeBack_1 : Dk mtX3_takeBack 1 (.aload_n 0) 1 2 := ⟨by decide +kernel, rfl⟩
theorem kX3_takeBack_2 : Dk mtX3_takeBack 2 (.getfield 19) 3 5 := ⟨by decide +kernel, rfl⟩
theorem kX3_takeBack_5 : Dk mtX3_takeBack 5 (.iconst 1) 1 6 := ⟨by decide +kernel, rfl⟩
theorem kX3_takeBack_6 : Dk mtX3_takeBack 6 (.isub) 1 7 := ⟨by decide +kernel, rfl⟩
theorem kX3_takeBack_7 : Dk mtX3_takeBack 7 (.invokevirtual 29) 3 10 := ⟨by decide +kernel, rfl⟩
theorem kX3_takeBack_10 : Dk mtX3_takeBack 10 (.astore_n 2) 1 11 := ⟨by decide +kernel, rfl⟩
theorem kX3_takeBack_11 : Dk mtX3_takeBack 11 (.aload_n 2) 1 12 := ⟨by decide +kernel, rfl⟩
theorem kX3_takeBack_12 : Dk mtX3_takeBack 12 (.ifnull 18) 3 15 := ⟨by decide +kernel, rfl⟩
theorem kX3_takeBack_15 : Dk mtX3_takeBack 15 (.aload_n 1) 1 16 := ⟨by decide +kernel, rfl⟩
theorem kX3_takeBack_16 : Dk mtX3_takeBack 16 (.aload_n 2) 1 17 := ⟨by decide +kernel, rfl⟩
theorem kX3_takeBack_17 : Dk mtX3_takeBack 17 (.invokevirtual 33) 3 20 := ⟨by decide +kernel, rfl⟩
theorem kX3_takeBack_20 : Dk mtX3_takeBack 20 (.aload_n 0) 1 21 := ⟨by decide +kernel, rfl⟩
theorem kX3_takeBack_21 : Dk mtX3_takeBack 21 (.dup) 1 22 := ⟨by decide +kernel, rfl⟩
theorem kX3_takeBack_22 : Dk mtX3_takeBack 22 (.getfield 19) 3 25 := ⟨by decide +kernel, rfl⟩
theorem kX3_takeBack_25 : Dk mtX3_takeBack 25 (.iconst 1) 1 26 := ⟨by decide +kernel, rfl⟩
theorem kX3_takeBack_26 : Dk mtX3_takeBack 26 (.isub) 1 27 := ⟨by decide +kernel, rfl⟩
theorem kX3_takeBack_27 : Dk mtX3_takeBack 27 (.putfield 19) 3 30 := ⟨by decide +kernel, rfl⟩
theorem kX3_takeBack_30 : Dk mtX3_takeBack 30 (.aload_n 0) 1 31 := ⟨by decide +kernel, rfl⟩
theorem kX3_takeBack_31 : Dk mtX3_takeBack 31 (.getfield 19) 3 34 := ⟨by decide +kernel, rfl⟩
theorem kX3_takeBack_34 : Dk mtX3_takeBack 34 (.ireturn) 1 35 := ⟨by decide +kernel, rfl⟩
set_option maxHeartbeats 4000000 in
set_option maxRecDepth 100000 in
theorem cl_takeBack {l : Launch} {w : Wd} {sg : Sg} (hWr : Wr w) {y n : Nat} {G : Nat → Gs} {K : Nat → Bool} {S : Nat → Gs} (hm : MRel sg y n G K S) {c : Nat} (hd : c + 18 ≤ y ∨ y + 291 ≤ c) (hb : Bt sg c) (h0 : ¬ n = 0) : M l mtX3_takeBack w [vR (some (3, 0, y)), vR (some (1, 0, c))] sg (rI (fun x sg2 => x = nI (n - 1) ∧ MRel sg2 y (n - 1) G K S ∧ Rel sg2 c (G (n - 1)) ∧ ∀ k, k ≠ y → (k < c ∨ c + 18 ≤ k) → sg2 k = sg k)) := by
  refine M_of [some (vR (some (3, 0, y))), some (vR (some (1, 0, c))), none] rfl (Nat.le_of_ble_eq_true rfl) (by decide +kernel) ?_
  intro p_ e_ s_ m_ args_ below_ meth_ c_ hC hO
  obtain ⟨f, m1, m2, m3, m4, m5, m6, m7, m8, m9⟩ := hm
  obtain ⟨d, rfl⟩ : ∃ d, n = d + 1 := ⟨n - 1, by omega⟩
  rw [Nat.add_sub_cancel]
  obtain ⟨hRd, hId⟩ := m5 d (by omega)
  refine V_aload_n hC kX3_takeBack_0 rfl ?_
  refine V_aload_n hC kX3_takeBack_1 rfl ?_
  refine V_getI hC 3 3 lfX3_19 kX3_takeBack_2 (Nat.le_of_ble_eq_true rfl) (Nat.le_of_ble_eq_true rfl) rfl ?_
  refine V_iconst hC (1) kX3_takeBack_5 (by decide) ?_
  refine V_isub hC kX3_takeBack_6 ?_
  refine V_cV_fR hC (cl_stateAt hWr m1 m3 (i := d) (by omega) (by rw [m4, nI_pred])) mkX3_stateAt lmX3_29 kX3_takeBack_7 (Nat.le_of_ble_eq_true rfl) rfl rfl rfl (Nat.le_of_ble_eq_true rfl) ⟨(Nat.le_of_ble_eq_true rfl), (Nat.le_of_ble_eq_true rfl)⟩ ⟨rfl, rfl⟩ ⟨(Nat.le_of_ble_eq_true rfl), (Nat.le_of_ble_eq_true rfl)⟩ ?_
  refine V_astore_n hC [some _, some _, some _] kX3_takeBack_10 rfl (Nat.le_of_ble_eq_true rfl) ?_
  refine V_aload_n hC kX3_takeBack_11 rfl ?_
  refine V_ifnull hC 30 kX3_takeBack_12 (by decide) (fun hq => by cases hq) (fun _ _ => ?_)
  refine V_aload_n hC kX3_takeBack_15 rfl ?_
  refine V_aload_n hC kX3_takeBack_16 rfl ?_
  refine V_cV_rV hC (cl_copyFrom hWr (c := c) hRd hId (by have := m14 (f + d); omega) hb) mkX1_copyFrom lmX3_33 kX3_takeBack_17 (Nat.le_of_ble_eq_true rfl) rfl rfl rfl (Nat.le_of_ble_eq_true rfl) ⟨(Nat.le_of_ble_eq_true rfl), (Nat.le_of_ble_eq_true rfl)⟩ ⟨rfl, rfl⟩ ⟨(Nat.le_of_ble_eq_true rfl), (Nat.le_of_ble_eq_true rfl)⟩ (fun g17 h17 => ?_)
  refine V_aload_n hC kX3_takeBack_20 rfl ?_
  refine V_dup hC kX3_takeBack_21 rfl ?_
  refine V_getI hC 3 3 lfX3_19 kX3_takeBack_22 (Nat.le_of_ble_eq_true rfl) (Nat.le_of_ble_eq_true rfl) rfl ?_
  refine V_iconst hC (1) kX3_takeBack_25 (by decide) ?_
  refine V_isub hC kX3_takeBack_26 ?_
  refine V_putI hC 3 3 lfX3_19 kX3_takeBack_27 (Nat.le_of_ble_eq_true rfl) (Nat.le_of_ble_eq_true rfl) rfl rfl ⟨rfl, rfl⟩ ?_
  refine V_aload_n hC kX3_takeBack_30 rfl ?_
  refine V_getI hC 3 3 lfX3_19 kX3_takeBack_31 (Nat.le_of_ble_eq_true rfl) (Nat.le_of_ble_eq_true rfl) rfl ?_
  refine V_ireti hC rfl kX3_takeBack_34 ?_
  obtain ⟨hR2, hF2⟩ := h17
  have e3 : g17 y 3 = nI (d + 1) := by rw [hF2 _ (by omega), m4]
  refine ⟨_, by with_reducible rfl, ?_, ⟨f, m1, by omega, ?_, ?_, fun i hi => ⟨(m5 i (by omega)).1.fr (m5 i (by omega)).2.cn (fun k a b => ?_), (m5 i (by omega)).2⟩, fun j hj => (m6 j hj).fr (fun k a b => ?_), fun j hj => (m7 j hj).fr (fun k a b => ?_), fun i hi => ?_, fun j hj hk => ⟨(m9 j hj hk).1.fr (m9 j hj hk).2.cn (fun k a b => ?_), (m9 j hj hk).2⟩⟩, hR2.fr hId.cn (fun k a b => ups_ne _ _ _ (by omega)), fun k h1 h2 => ?_⟩
  · rw [ups_v, if_pos ⟨rfl, rfl⟩, e3, nI_pred]
  · rw [ups_v, if_neg (by omega), hF2 _ (by omega), m3]
  · rw [ups_v, if_pos ⟨rfl, rfl⟩, e3, nI_pred]
  · have := m14 (f + i)
    rw [ups_ne _ _ _ (by omega), hF2 _ (by omega)]
  · rw [ups_ne _ _ _ (by omega), hF2 _ (by omega)]
  · rw [ups_ne _ _ _ (by omega), hF2 _ (by omega)]
  · rw [ups_v, if_neg (by omega), hF2 _ (by omega), m8 i hi]
  · rw [ups_ne _ _ _ (by omega), hF2 _ (by omega)]
  · rw [ups_ne _ _ _ h1, hF2 _ h2]
theorem kept_v {x : Int32} {K : Nat → Bool} (h : ∀ i, i < 32 → bt x i = (decide (i < 2) && K i)) {j : Nat} (hj : j < 2) : (x >>> (nI j &&& 31)) &&& 1 = b01 (K j = true) := by
  refine b_ext (fun i hi => ?_)
  rw [b_and, b_sshr j (by omega) x hi, bt_1 i hi]
  by_cases e : i = 0
  · subst e
    rw [if_pos (by omega), h (j + 0) (by omega)]
    by_cases q : K j = true
    · rw [b01_t q, bt_1 0 (by decide)]
      simp [q, hj]
    · rw [b01_f q, b_0]
      simp [q]
  · have : bt (b01 (K j = true)) i = false := by
      unfold b01
      split
      · rw [bt_1 i hi]; simp [e]
      · exact b_0 _
    rw [this]
    simp [e]
theorem kept_s {x : Int32} {K : Nat → Bool} (h : ∀ i, i < 32 → bt x i = (decide (i < 2) && K i)) {j : Nat} (hj : j < 2) : ∀ i, i < 32 → bt (x ||| (1 <<< (nI j &&& 31))) i = (decide (i < 2) && (if i = j then true else K i)) := fun i hi => by
  rw [b_or, h i hi, bt_bit (by omega) hi]
  by_cases e : i = j
  · subst e; simp [hj]
  · simp [e]
def mtX3_isKept : Mt := (yX3_isKept, cX3_isKept, 2, (some .boolean), 1, 20, 0, 0)
theorem kX3_isKept_0 : Dk mtX3_isKept 0 (.iload_n 1) 1 1 := ⟨by decide +kernel, rfl⟩
theorem kX3_isKept_1 : Dk mtX3_isKept 1 (.invokestatic 37) 3 4 := ⟨by decide +kernel, rfl⟩
theorem kX3_isKept_4 : Dk mtX3_isKept 4 (.ifCond .eq 19) 3 7 := ⟨by decide +kernel, rfl⟩
theorem kX3_isKept_7 : Dk mtX3_isKept 7 (.aload_n 0) 1 8 := ⟨by decide +kernel, rfl⟩
theorem kX3_isKept_8 : Dk mtX3_isKept 8 (.getfield 23) 3 11 := ⟨by decide +kernel, rfl⟩
theorem kX3_isKept_11 : Dk mtX3_isKept 11 (.iload_n 1) 1 12 := ⟨by decide +kernel, rfl⟩
theorem kX3_isKept_12 : Dk mtX3_isKept 12 (.ishr) 1 13 := ⟨by decide +kernel, rfl⟩
theorem kX3_isKept_13 : Dk mtX3_isKept 13 (.iconst 1) 1 14 := ⟨by decide +kernel, rfl⟩
theorem kX3_isKept_14 : Dk mtX3_isKept 14 (.iand) 1 15 := ⟨by decide +kernel, rfl⟩
theorem kX3_isKept_15 : Dk mtX3_isKept 15 (.iconst 1) 1 16 := ⟨by decide +kernel, rfl⟩
theorem kX3_isKept_16 : Dk mtX3_isKept 16 (.if_icmp .ne 7) 3 19 := ⟨by decide +kernel, rfl⟩
theorem kX3_isKept_19 : Dk mtX3_isKept 19 (.iconst 1) 1 20 := ⟨by decide +kernel, rfl⟩
theorem kX3_isKept_20 : Dk mtX3_isKept 20 (.goto 4) 3 23 := ⟨by decide +kernel, rfl⟩
theorem kX3_isKept_23 : Dk mtX3_isKept 23 (.iconst 0) 1 24 := ⟨by decide +kernel, rfl⟩
theorem kX3_isKept_24 : Dk mtX3_isKept 24 (.ireturn) 1 25 := ⟨by decide +kernel, rfl⟩
theorem lmX3_37 : LkM RX3 37 mtX3_isSlot := Or.inl (by decide +kernel)
theorem mkX3_isSlot : MkS mtX3_isSlot 1 := ⟨List.mem_of_getElem? (i := 594) (by decide +kernel), by decide +kernel, by decide +kernel, ⟨by decide +kernel, by decide +kernel, by decide +kernel⟩⟩
set_option maxHeartbeats 4000000 in
set_option maxRecDepth 100000 in
theorem cl_isKept {l : Launch} {w : Wd} {sg : Sg} (hWr : Wr w) {y n : Nat} {G : Nat → Gs} {K : Nat → Bool} {S : Nat → Gs} (hm : MRel sg y n G K S) {j : Nat} (hj : j < 2) : M l mtX3_isKept w [vR (some (3, 0, y)), vI (nI j)] sg (fI (b01 (K j = true)) sg) := by
  refine M_of [some (vR (some (3, 0, y))), some (vI (nI j))] rfl (Nat.le_of_ble_eq_true rfl) (by decide +kernel) ?_
  intro p_ e_ s_ m_ args_ below_ meth_ c_ hC hO
  obtain ⟨f, m1, m2, m3, m4, m5, m6, m7, m8, m9⟩ := hm
  refine V_iload_n hC kX3_isKept_0 rfl ?_
  refine V_cS_fI hC (cl_isSlot hWr _) mkX3_isSlot lmX3_37 kX3_isKept_1 rfl rfl (Nat.le_of_ble_eq_true rfl) ⟨(Nat.le_of_ble_eq_true rfl), (Nat.le_of_ble_eq_true rfl)⟩ ⟨rfl, rfl⟩ ⟨(Nat.le_of_ble_eq_true rfl), (Nat.le_of_ble_eq_true rfl)⟩ ?_
  refine V_if_eq hC 23 kX3_isKept_4 (by decide) (fun h4 => absurd h4 (fun z => b01e.mp z ⟨nI_pos' (by omega), nI_le (a := j) (b := 1) (by omega) (by decide)⟩)) (fun h4 => ?_)
  refine V_aload_n hC kX3_isKept_7 rfl ?_
  refine V_getI hC 3 4 lfX3_23 kX3_isKept_8 (Nat.le_of_ble_eq_true rfl) (Nat.le_of_ble_eq_true rfl) rfl ?_
  refine V_iload_n hC kX3_isKept_11 rfl ?_
  refine V_ishr hC kX3_isKept_12 ?_
  refine V_iconst hC (1) kX3_isKept_13 (by decide) ?_
  refine V_iand hC kX3_isKept_14 ?_
  refine V_iconst hC (1) kX3_isKept_15 (by decide) ?_
  refine V_icmp_ne hC 23 kX3_isKept_16 (by decide) (fun h16 => ?_) (fun h16 => ?_)
  · refine V_iconst hC (0) kX3_isKept_23 (by decide) ?_
    refine V_iretz hC rfl kX3_isKept_24 ?_ ?_
    · first | exact Or.inl rfl | exact Or.inr rfl
    · refine ⟨cI ?_, by with_reducible rfl⟩
      rw [kept_v m8 hj] at h16
      first
      | exact (b01_f (fun z => h16 (b01_t z))).symm
      | exact (b01_t (b01i.mp h16)).symm
  · refine V_iconst hC (1) kX3_isKept_19 (by decide) ?_
    refine V_goto hC 24 kX3_isKept_20 (by decide) ?_
    refine V_iretz hC rfl kX3_isKept_24 ?_ ?_
    · first | exact Or.inl rfl | exact Or.inr rfl
    · refine ⟨cI ?_, by with_reducible rfl⟩
      rw [kept_v m8 hj] at h16
      first
      | exact (b01_f (fun z => h16 (b01_t z))).symm
      | exact (b01_t (b01i.mp h16)).symm
def mtX3_keep : Mt := (yX3_keep, cX3_keep, 4, none, 2, 45, 0, 0)
theorem kX3_keep_0 : Dk mtX3_keep 0 (.aload_n 0) 1 1 := ⟨by decide +kernel, rfl⟩
theorem kX3_keep_1 : Dk mtX3_keep 1 (.iload_n 1) 1 2 := ⟨by decide +kernel, rfl⟩
theorem kX3_keep_2 : Dk mtX3_keep 2 (.invokevirtual 41) 3 5 := ⟨by decide +kernel, rfl⟩
theorem kX3_keep_5 : Dk mtX3_keep 5 (.astore_n 3) 1 6 := ⟨by decide +kernel, rfl⟩
theorem kX3_keep_6 : Dk mtX3_keep 6 (.aload_n 3) 1 7 := ⟨by decide +kernel, rfl⟩
theorem kX3_keep_7 : Dk mtX3_keep 7 (.ifnull 20) 3 10 := ⟨by decide +kernel, rfl⟩
theorem kX3_keep_10 : Dk mtX3_keep 10 (.aload_n 3) 1 11 := ⟨by decide +kernel, rfl⟩
theorem kX3_keep_11 : Dk mtX3_keep 11 (.aload_n 2) 1 12 := ⟨by decide +kernel, rfl⟩
theorem kX3_keep_12 : Dk mtX3_keep 12 (.invokevirtual 33) 3 15 := ⟨by decide +kernel, rfl⟩
theorem kX3_keep_15 : Dk mtX3_keep 15 (.aload_n 0) 1 16 := ⟨by decide +kernel, rfl⟩
theorem kX3_keep_16 : Dk mtX3_keep 16 (.dup) 1 17 := ⟨by decide +kernel, rfl⟩
theorem kX3_keep_17 : Dk mtX3_keep 17 (.getfield 23) 3 20 := ⟨by decide +kernel, rfl⟩
theorem kX3_keep_20 : Dk mtX3_keep 20 (.iconst 1) 1 21 := ⟨by decide +kernel, rfl⟩
theorem kX3_keep_21 : Dk mtX3_keep 21 (.iload_n 1) 1 22 := ⟨by decide +kernel, rfl⟩
theorem kX3_keep_22 : Dk mtX3_keep 22 (.ishl) 1 23 := ⟨by decide +kernel, rfl⟩
theorem kX3_keep_23 : Dk mtX3_keep 23 (.ior) 1 24 := ⟨by decide +kernel, rfl⟩
theorem kX3_keep_24 : Dk mtX3_keep 24 (.putfield 23) 3 27 := ⟨by decide +kernel, rfl⟩
theorem kX3_keep_27 : Dk mtX3_keep 27 (.return_) 1 28 := ⟨by decide +kernel, rfl⟩
theorem lmX3_41 : LkM RX3 41 mtX3_slotAt := Or.inl (by decide +kernel)
theorem mkX3_slotAt : MkV mtX3_slotAt 1 := ⟨List.mem_of_getElem? (i := 603) (by decide +kernel), by decide +kernel, by decide +kernel, by decide +kernel, ⟨by decide +kernel, by decide +kernel, by decide +kernel⟩⟩
set_option maxHeartbeats 4000000 in
set_option maxRecDepth 100000 in
theorem cl_keep {l : Launch} {w : Wd} {sg : Sg} (hWr : Wr w) {y n : Nat} {G : Nat → Gs} {K : Nat → Bool} {S : Nat → Gs} (hm : MRel sg y n G K S) {c : Nat} {g : Gs} (hR : Rel sg c g) (hI : Inv g) (hd : c + 18 ≤ y ∨ y + 291 ≤ c) {j : Nat} (hj : j < 2) : M l mtX3_keep w [vR (some (3, 0, y)), vI (nI j), vR (some (1, 0, c))] sg (rV (fun sg2 => MRel sg2 y n G (fun i => if i = j then true else K i) (fun i => if i = j then g else S i) ∧ ∀ k, (k < y ∨ y + 291 ≤ k) → sg2 k = sg k)) := by
  refine M_of [some (vR (some (3, 0, y))), some (vI (nI j)), some (vR (some (1, 0, c))), none] rfl (Nat.le_of_ble_eq_true rfl) (by decide +kernel) ?_
  intro p_ e_ s_ m_ args_ below_ meth_ c_ hC hO
  obtain ⟨f, m1, m2, m3, m4, m5, m6, m7, m8, m9⟩ := hm
  refine V_aload_n hC kX3_keep_0 rfl ?_
  refine V_iload_n hC kX3_keep_1 rfl ?_
  refine V_cV_fR hC (cl_slotAt hWr hj rfl) mkX3_slotAt lmX3_41 kX3_keep_2 (Nat.le_of_ble_eq_true rfl) rfl rfl rfl (Nat.le_of_ble_eq_true rfl) ⟨(Nat.le_of_ble_eq_true rfl), (Nat.le_of_ble_eq_true rfl)⟩ ⟨rfl, rfl⟩ ⟨(Nat.le_of_ble_eq_true rfl), (Nat.le_of_ble_eq_true rfl)⟩ ?_
  refine V_astore_n hC [some _, some _, some _, some _] kX3_keep_5 rfl (Nat.le_of_ble_eq_true rfl) ?_
  refine V_aload_n hC kX3_keep_6 rfl ?_
  refine V_ifnull hC 27 kX3_keep_7 (by decide) (fun hq => by cases hq) (fun _ _ => ?_)
  refine V_aload_n hC kX3_keep_10 rfl ?_
  refine V_aload_n hC kX3_keep_11 rfl ?_
  refine V_cV_rV hC (cl_copyFrom hWr (c := (y + 255 + 18 * j)) hR hI (by omega) (m7 j hj)) mkX1_copyFrom lmX3_33 kX3_keep_12 (Nat.le_of_ble_eq_true rfl) rfl rfl rfl (Nat.le_of_ble_eq_true rfl) ⟨(Nat.le_of_ble_eq_true rfl), (Nat.le_of_ble_eq_true rfl)⟩ ⟨rfl, rfl⟩ ⟨(Nat.le_of_ble_eq_true rfl), (Nat.le_of_ble_eq_true rfl)⟩ (fun g12 h12 => ?_)
  refine V_aload_n hC kX3_keep_15 rfl ?_
  refine V_dup hC kX3_keep_16 rfl ?_
  refine V_getI hC 3 4 lfX3_23 kX3_keep_17 (Nat.le_of_ble_eq_true rfl) (Nat.le_of_ble_eq_true rfl) rfl ?_
  refine V_iconst hC (1) kX3_keep_20 (by decide) ?_
  refine V_iload_n hC kX3_keep_21 rfl ?_
  refine V_ishl hC kX3_keep_22 ?_
  refine V_ior hC kX3_keep_23 ?_
  refine V_putI hC 3 4 lfX3_23 kX3_keep_24 (Nat.le_of_ble_eq_true rfl) (Nat.le_of_ble_eq_true rfl) rfl rfl ⟨rfl, rfl⟩ ?_
  refine V_vret hC rfl kX3_keep_27 ?_
  obtain ⟨hR2, hF2⟩ := h12
  refine ⟨by with_reducible rfl, ⟨f, m1, m2, ?_, ?_, fun i hi => ⟨(m5 i hi).1.fr (m5 i hi).2.cn (fun k a b => ?_), (m5 i hi).2⟩, fun i hi => (m6 i hi).fr (fun k a b => ?_), fun i hi => ?_, fun i hi => ?_, fun i hi hk => ?_⟩, fun k hk => ?_⟩
  · rw [ups_v, if_neg (by omega), hF2 _ (by omega), m3]
  · rw [ups_v, if_neg (by omega), hF2 _ (by omega), m4]
  · have := m14 (f + i)
    rw [ups_ne _ _ _ (by omega), hF2 _ (by omega)]
  · rw [ups_ne _ _ _ (by omega), hF2 _ (by omega)]
  · by_cases e : i = j
    · subst e
      exact (hR2.2.2.2.2).fr (fun k a b => ups_ne _ _ _ (by omega))
    · refine (m7 i hi).fr (fun k a b => ?_)
      rw [ups_ne _ _ _ (by omega), hF2 _ (by omega)]
  · rw [ups_v, if_pos ⟨rfl, rfl⟩, hF2 _ (by omega)]
    exact kept_s m8 hj i hi
  · by_cases e : i = j
    · subst e
      show Rel _ _ (if i = i then g else S i) ∧ Inv (if i = i then g else S i)
      rw [if_pos rfl]
      exact ⟨hR2.fr hI.cn (fun k a b => ups_ne _ _ _ (by omega)), hI⟩
    · replace hk : (if i = j then true else K i) = true := hk
      show Rel _ _ (if i = j then g else S i) ∧ Inv (if i = j then g else S i)
      rw [if_neg e] at hk ⊢
      refine ⟨(m9 i hi hk).1.fr (m9 i hi hk).2.cn (fun k a b => ?_), (m9 i hi hk).2⟩
      rw [ups_ne _ _ _ (by omega), hF2 _ (by omega)]
  · rw [ups_ne _ _ _ (by omega), hF2 _ (by omega)]
def mtX3_bring : Mt := (yX3_bring, cX3_bring, 4, none, 2, 45, 0, 0)
theorem kX3_bring_0 : Dk mtX3_bring 0 (.aload_n 0) 1 1 := ⟨by decide +kernel, rfl⟩
theorem kX3_bring_1 : Dk mtX3_bring 1 (.iload_n 1) 1 2 := ⟨by decide +kernel, rfl⟩
theorem kX3_bring_2 : Dk mtX3_bring 2 (.invokevirtual 41) 3 5 := ⟨by decide +kernel, rfl⟩
theorem kX3_bring_5 : Dk mtX3_bring 5 (.astore_n 3) 1 6 := ⟨by decide +kernel, rfl⟩
theorem kX3_bring_6 : Dk mtX3_bring 6 (.aload_n 3) 1 7 := ⟨by decide +kernel, rfl⟩
theorem kX3_bring_7 : Dk mtX3_bring 7 (.ifnull 13) 3 10 := ⟨by decide +kernel, rfl⟩
theorem kX3_bring_10 : Dk mtX3_bring 10 (.aload_n 2) 1 11 := ⟨by decide +kernel, rfl⟩
theorem kX3_bring_11 : Dk mtX3_bring 11 (.aload_n 3) 1 12 := ⟨by decide +kernel, rfl⟩
theorem kX3_bring_12 : Dk mtX3_bring 12 (.invokevirtual 33) 3 15 := ⟨by decide +kernel, rfl⟩
theorem kX3_bring_15 : Dk mtX3_bring 15 (.aload_n 0) 1 16 := ⟨by decide +kernel, rfl⟩
theorem kX3_bring_16 : Dk mtX3_bring 16 (.iconst 0) 1 17 := ⟨by decide +kernel, rfl⟩
theorem kX3_bring_17 : Dk mtX3_bring 17 (.putfield 19) 3 20 := ⟨by decide +kernel, rfl⟩
theorem kX3_bring_20 : Dk mtX3_bring 20 (.return_) 1 21 := ⟨by decide +kernel, rfl⟩
set_option maxHeartbeats 4000000 in
set_option maxRecDepth 100000 in
theorem cl_bring {l : Launch} {w : Wd} {sg : Sg} (hWr : Wr w) {y n : Nat} {G : Nat → Gs} {K : Nat → Bool} {S : Nat → Gs} (hm : MRel sg y n G K S) {c : Nat} (hd : c + 18 ≤ y ∨ y + 291 ≤ c) (hb : Bt sg c) {j : Nat} (hj : j < 2) (hk : K j = true) : M l mtX3_bring w [vR (some (3, 0, y)), vI (nI j), vR (some (1, 0, c))] sg (rV (fun sg2 => MRel sg2 y 0 G K S ∧ Rel sg2 c (S j) ∧ ∀ k, k ≠ y → (k < c ∨ c + 18 ≤ k) → sg2 k = sg k)) := by
  refine M_of [some (vR (some (3, 0, y))), some (vI (nI j)), some (vR (some (1, 0, c))), none] rfl (Nat.le_of_ble_eq_true rfl) (by decide +kernel) ?_
  intro p_ e_ s_ m_ args_ below_ meth_ c_ hC hO
  obtain ⟨f, m1, m2, m3, m4, m5, m6, m7, m8, m9⟩ := hm
  obtain ⟨hRj, hIj⟩ := m9 j hj hk
  refine V_aload_n hC kX3_bring_0 rfl ?_
  refine V_iload_n hC kX3_bring_1 rfl ?_
  refine V_cV_fR hC (cl_slotAt hWr hj rfl) mkX3_slotAt lmX3_41 kX3_bring_2 (Nat.le_of_ble_eq_true rfl) rfl rfl rfl (Nat.le_of_ble_eq_true rfl) ⟨(Nat.le_of_ble_eq_true rfl), (Nat.le_of_ble_eq_true rfl)⟩ ⟨rfl, rfl⟩ ⟨(Nat.le_of_ble_eq_true rfl), (Nat.le_of_ble_eq_true rfl)⟩ ?_
  refine V_astore_n hC [some _, some _, some _, some _] kX3_bring_5 rfl (Nat.le_of_ble_eq_true rfl) ?_
  refine V_aload_n hC kX3_bring_6 rfl ?_
  refine V_ifnull hC 20 kX3_bring_7 (by decide) (fun hq => by cases hq) (fun _ _ => ?_)
  refine V_aload_n hC kX3_bring_10 rfl ?_
  refine V_aload_n hC kX3_bring_11 rfl ?_
  refine V_cV_rV hC (cl_copyFrom hWr (c := c) hRj hIj (by omega) hb) mkX1_copyFrom lmX3_33 kX3_bring_12 (Nat.le_of_ble_eq_true rfl) rfl rfl rfl (Nat.le_of_ble_eq_true rfl) ⟨(Nat.le_of_ble_eq_true rfl), (Nat.le_of_ble_eq_true rfl)⟩ ⟨rfl, rfl⟩ ⟨(Nat.le_of_ble_eq_true rfl), (Nat.le_of_ble_eq_true rfl)⟩ (fun g12 h12 => ?_)
  refine V_aload_n hC kX3_bring_15 rfl ?_
  refine V_iconst hC (0) kX3_bring_16 (by decide) ?_
  refine V_putI hC 3 3 lfX3_19 kX3_bring_17 (Nat.le_of_ble_eq_true rfl) (Nat.le_of_ble_eq_true rfl) rfl rfl ⟨rfl, rfl⟩ ?_
  refine V_vret hC rfl kX3_bring_20 ?_
  obtain ⟨hR2, hF2⟩ := h12
  refine ⟨by with_reducible rfl, ⟨f, m1, by omega, ?_, ?_, fun i hi => by omega, fun i hi => (m6 i hi).fr (fun k a b => ?_), fun i hi => (m7 i hi).fr (fun k a b => ?_), fun i hi => ?_, fun i hi hk => ⟨(m9 i hi hk).1.fr (m9 i hi hk).2.cn (fun k a b => ?_), (m9 i hi hk).2⟩⟩, hR2.fr hIj.cn (fun k a b => ups_ne _ _ _ (by omega)), fun k h1 h2 => ?_⟩
  · rw [ups_v, if_neg (by omega), hF2 _ (by omega), m3]
  · rw [ups_v, if_pos ⟨rfl, rfl⟩]; rfl
  · rw [ups_ne _ _ _ (by omega), hF2 _ (by omega)]
  · rw [ups_ne _ _ _ (by omega), hF2 _ (by omega)]
  · rw [ups_v, if_neg (by omega), hF2 _ (by omega), m8 i hi]
  · rw [ups_ne _ _ _ (by omega), hF2 _ (by omega)]
  · rw [ups_ne _ _ _ h1, hF2 _ h2]

