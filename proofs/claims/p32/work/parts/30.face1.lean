-- HOW cl_isPlace fI
-- HOW cl_isSpeed fI
-- HOW cl_isStrength fI
-- HOW cl_isTickCount fI
-- HOW cl_isSetting fI
-- HOW cl_isSlot fI
-- HOW cl_isSettingValue fI
-- HOW cl_shown fI
-- HOW cl_lbegin fV
-- HOW cl_lcopy fV
-- HOW cl_bcopy fV
-- HOW cl_lnum fI
-- HOW cl_bnum fI
-- HOW cl_bright fI
-- HOW cl_worth fI
-- HOW cl_bitCount fI
-- HOW cl_servedCount fI
-- HOW cl_takesHandedOn fI
-- HOW cl_takesOthers fI
-- HOW cl_bbegin fV
-- HOW cl_move fV
-- HOW cl_wishFor fV
-- HOW cl_lightR fR
-- HOW cl_lightN fR
-- HOW cl_boatR fR
-- HOW cl_boatN fR
-- HOW cl_setR fI
-- HOW cl_lightAt fR
-- HOW cl_lightAtNo fR
-- HOW cl_boatAt fR
-- HOW cl_boatAtNo fR
-- HOW cl_settingOf fI
-- HOW cl_servedBoats fI
-- HOW cl_talkingBoats fI
-- HOW cl_numberOf fI
-- HOW cl_brightest fI
-- HOW cl_isDark fI
-- HOW cl_freePlaces fI
-- HOW cl_lightFault fI
-- HOW cl_boatFault fI
-- HOW cl_steerFault fI
-- HOW cl_dimFault fI
-- HOW cl_leanFault fI
-- HOW cl_talkFault fI
-- HOW cl_putSpeed rI
-- HOW cl_putTalk rI
-- HOW cl_putLeaning rI
-- HOW cl_putStrength rI
-- HOW cl_putSetting rI
-- HOW cl_addLight rI
-- HOW cl_addBoat rI
-- HOW cl_tryLight rI
-- HOW cl_tryBoat rI
-- HOW cl_trySteer rI
-- HOW cl_tryTalk rI
-- HOW cl_tryLean rI
-- HOW cl_tryDim rI
-- HOW cl_serve rV
-- HOW cl_lose rV
-- HOW cl_bestWish fI
-- HOW cl_seekKeeper rV
-- HOW cl_ask rV
-- HOW cl_sail rV
-- HOW cl_pass rV
-- HOW cl_reset rV
-- HOW cl_copyFrom rV
-- HOW cl_stateAt fR
-- HOW cl_slotAt fR
-- HOW cl_hasStates fI
-- HOW cl_remember rV
-- HOW cl_takeBack rI
-- HOW cl_isKept fI
-- HOW cl_keep rV
-- HOW cl_bring rV
-- HOW cl_gained fI
-- HOW cl_dark fI
-- HOW cl_room fI
-- HOW cl_takeTurn rV
-- HOW cl_throwFault xV
-- HOW cf_about xI
-- HOW cf_lightOf xI
-- HOW cf_boatOf xI
-- HOW cf_bestAt xI
-- HOW cf_setting xI
/-! the class's face: what asks only -/
def eL (a b d : String) (k : Int32) : String := if k = 1 then a else if k = 2 then b else d
def pY (a b d : String) (K : Int32) (sg : Sg) : String → Sg → Prop := fun E g => ¬ K = 0 ∧ E = eL a b d K ∧ g = sg
theorem pY1 {a b d : String} {K : Int32} {sg : Sg} (h : K = 1) : pY a b d K sg a sg := ⟨by rw [h]; decide, by rw [h, eL, if_pos rfl], rfl⟩
theorem pY2 {a b d : String} {K : Int32} {sg : Sg} (h : K = 2) : pY a b d K sg b sg := ⟨by rw [h]; decide, by rw [h, eL, if_neg (by decide), if_pos rfl], rfl⟩
theorem inn_n9 {b : Int32} (hb : inn b 0 8) : ∃ j, j < 9 ∧ b = nI j := by
  obtain ⟨j, hj, e⟩ := vp_in_of (inn_vp (m := 9) (by decide) hb) (by decide)
  exact ⟨j, hj, e⟩
theorem lnum_eq {sg : Sg} {c : Nat} {g : Gs} (hR : Rel sg c g) (hI : Inv g) {n : Nat} (hn : n < tn (g 4)) {b : Int32} (hb : inn b 0 8) : sg (c + 2 + n) (tn b) = R_lightOf g (nI n) b := by
  obtain ⟨j, hj, rfl⟩ := inn_n9 hb
  have h : j = 0 ∨ j = 1 ∨ j = 2 ∨ j = 3 ∨ j = 4 ∨ j = 5 ∨ j = 6 ∨ j = 7 ∨ j = 8 := by omega
  rcases h with rfl | rfl | rfl | rfl | rfl | rfl | rfl | rfl | rfl
  · exact (hR.l0 hI hn).trans (if_pos (by decide)).symm
  · exact (hR.l1 hI hn).trans (if_pos (by decide)).symm
  · exact (hR.l2 hI hn).trans (if_pos (by decide)).symm
  · exact (hR.l3 hI hn).trans (if_pos (by decide)).symm
  · exact (hR.l4 hI hn).trans (if_pos (by decide)).symm
  · exact (hR.l5 hI hn).trans (if_pos (by decide)).symm
  · exact (hR.l6 hI hn).trans (if_pos (by decide)).symm
  · exact (hR.l7 hn).trans (by rw [R_lightOf, if_neg (by decide), if_pos (by decide)])
  · exact (hR.l8 hI hn).trans (by rw [R_lightOf, if_neg (by decide), if_neg (by decide)])
theorem b01_1' {c : Prop} [Decidable c] (h : c) : b01 c = 1 := if_pos h
theorem b01_0' {c : Prop} [Decidable c] (h : ¬ c) : b01 c = 0 := if_neg h
theorem sub0' (a : Int32) : a - 0 = a := by
  apply Int32.toBitVec_inj.mp
  simp
theorem bnum_eq {sg : Sg} {c : Nat} {g : Gs} (hR : Rel sg c g) (hI : Inv g) {n : Nat} (hn : n < tn (g 5)) {b : Int32} (hb : inn b 0 8) : sg (c + 9 + n) (if tn b < 7 then tn b + 1 else tn b + 2) = R_boatOf g (nI n) b := by
  obtain ⟨j, hj, rfl⟩ := inn_n9 hb
  have h : j = 0 ∨ j = 1 ∨ j = 2 ∨ j = 3 ∨ j = 4 ∨ j = 5 ∨ j = 6 ∨ j = 7 ∨ j = 8 := by omega
  rcases h with rfl | rfl | rfl | rfl | rfl | rfl | rfl | rfl | rfl
  · exact (hR.b1 hI hn).trans (by rw [R_boatOf, b01_0' (by decide), sub0']; rfl)
  · exact (hR.b2 hI hn).trans (by rw [R_boatOf, b01_0' (by decide), sub0']; rfl)
  · exact (hR.b3 hI hn).trans (by rw [R_boatOf, b01_1' (by decide)]; rfl)
  · exact (hR.b4 hI hn).trans (by rw [R_boatOf, b01_0' (by decide), sub0']; rfl)
  · exact (hR.b5 hI hn).trans (by rw [R_boatOf, b01_1' (by decide)]; rfl)
  · exact (hR.b6 hI hn).trans (by rw [R_boatOf, b01_0' (by decide), sub0']; rfl)
  · exact (hR.b7 hI hn).trans (by rw [R_boatOf, b01_1' (by decide)]; rfl)
  · exact (hR.b9 hI hn).trans (by rw [R_boatOf, b01_0' (by decide), sub0']; rfl)
  · exact (hR.b10 hI hn).trans (by rw [R_boatOf, b01_0' (by decide), sub0']; rfl)
theorem lu9 {a : Int32} : a < 9 ↔ a ≤ 8 := by
  rw [Int32.lt_iff_toInt_lt, Int32.le_iff_toInt_le]
  have e1 : (9 : Int32).toInt = 9 := rfl
  have e2 : (8 : Int32).toInt = 8 := rfl
  omega
theorem ln9 {a : Int32} (h : a < 0 ∨ ¬ a < 9) : ¬ inn a 0 8 := fun z => h.elim (fun h => absurd z.1 (Int32.not_le.mpr h)) (fun h => h (lu9.mpr z.2))
theorem lu10 {a : Int32} : a < 10 ↔ a ≤ 9 := by
  rw [Int32.lt_iff_toInt_lt, Int32.le_iff_toInt_le]
  have e1 : (10 : Int32).toInt = 10 := rfl
  have e2 : (9 : Int32).toInt = 9 := rfl
  omega
theorem ln10 {a : Int32} (h : a < 0 ∨ ¬ a < 10) : ¬ inn a 0 9 := fun z => h.elim (fun h => absurd z.1 (Int32.not_le.mpr h)) (fun h => h (lu10.mpr z.2))
theorem inn01 {b : Int32} (h : inn b 0 1) : b = 0 ∨ b = 1 := by
  obtain ⟨j, hj, rfl⟩ := vp_in_of (inn_vp (m := 2) (by decide) h) (by decide)
  have : j = 0 ∨ j = 1 := by omega
  rcases this with rfl | rfl
  · exact Or.inl rfl
  · exact Or.inr rfl
theorem in01 {b : Int32} (h : b = 0 ∨ b = 1) : inn b 0 1 := by
  rcases h with rfl | rfl <;> decide
def mtX5_about : Mt := (yX5_about, cX5_about, 2, (some .int), 7, 221, 1, 6)
theorem kX5_about_0 : Dk mtX5_about 0 (.iload_n 1) 1 1 := ⟨by decide +kernel, rfl⟩
theorem kX5_about_1 : Dk mtX5_about 1 (.ifCond .lt 9) 3 4 := ⟨by decide +kernel, rfl⟩
theorem kX5_about_4 : Dk mtX5_about 4 (.iload_n 1) 1 5 := ⟨by decide +kernel, rfl⟩
theorem kX5_about_5 : Dk mtX5_about 5 (.bipush 10) 2 7 := ⟨by decide +kernel, rfl⟩
theorem kX5_about_7 : Dk mtX5_about 7 (.if_icmp .lt 13) 3 10 := ⟨by decide +kernel, rfl⟩
theorem kX5_about_10 : Dk mtX5_about 10 (.new 33) 3 13 := ⟨by decide +kernel, rfl⟩
theorem kX5_about_13 : Dk mtX5_about 13 (.dup) 1 14 := ⟨by decide +kernel, rfl⟩
theorem kX5_about_14 : Dk mtX5_about 14 (.ldc 106) 2 16 := ⟨by decide +kernel, rfl⟩
theorem kX5_about_16 : Dk mtX5_about 16 (.invokespecial 37) 3 19 := ⟨by decide +kernel, rfl⟩
theorem kX5_about_19 : Dk mtX5_about 19 (.athrow) 1 20 := ⟨by decide +kernel, rfl⟩
theorem kX5_about_20 : Dk mtX5_about 20 (.aload_n 0) 1 21 := ⟨by decide +kernel, rfl⟩
theorem kX5_about_21 : Dk mtX5_about 21 (.getfield 19) 3 24 := ⟨by decide +kernel, rfl⟩
theorem kX5_about_24 : Dk mtX5_about 24 (.iload_n 1) 1 25 := ⟨by decide +kernel, rfl⟩
theorem kX5_about_25 : Dk mtX5_about 25 (.invokevirtual 108) 3 28 := ⟨by decide +kernel, rfl⟩
theorem kX5_about_28 : Dk mtX5_about 28 (.ireturn) 1 29 := ⟨by decide +kernel, rfl⟩
set_option maxHeartbeats 4000000 in
set_option maxRecDepth 100000 in
theorem cf_about {l : Launch} {w : Wd} {sg : Sg} (hWr : Wr w) (hl0 : l.stackTraces = false) (a : Int32) {x : Nat} {g : Gs} (hR : Rel sg (x + 4) g) (hI : Inv g) : MX l mtX5_about w [vR (some (5, 0, x)), vI a] sg (rX (K_about a) (fun r g2 => r = F_tells g a ∧ g2 = sg)) (pY "java/lang/IllegalArgumentException" "java/lang/IllegalArgumentException" "java/lang/IllegalArgumentException" (K_about a) sg) := by
  refine MX_of hl0 [some (vR (some (5, 0, x))), some (vI a)] rfl (Nat.le_of_ble_eq_true rfl) (by decide +kernel) ?_
  intro p_ e_ s_ m_ args_ below_ meth_ c_ hC hX hO
  refine V_iload_n hC kX5_about_0 rfl ?_
  refine V_if_lt hC 10 kX5_about_1 (by decide) (fun h1 => ?_) (fun h1 => ?_)
  · refine V_thS hC hX (cls := "java/lang/IllegalArgumentException") (text := "what is 0 to 9") thc1 (by decide +kernel) rfl kX5_about_10 kX5_about_13 kX5_about_14 kX5_about_16 kX5_about_19 ⟨(Nat.le_of_ble_eq_true rfl), (Nat.le_of_ble_eq_true rfl)⟩ ⟨(Nat.le_of_ble_eq_true rfl), (Nat.le_of_ble_eq_true rfl)⟩ ?_
    first
    | exact pY1 (if_neg (ln10 (Or.inl h1)))
    | exact pY1 (if_neg (ln10 (Or.inr h7)))
  · refine V_iload_n hC kX5_about_4 rfl ?_
    refine V_bipush hC (10) kX5_about_5 (by decide) ?_
    refine V_icmp_lt hC 20 kX5_about_7 (by decide) (fun h7 => ?_) (fun h7 => ?_)
    · refine V_aload_n hC kX5_about_20 rfl ?_
      refine V_getR hC hWr 5 1 lfX5_19 kX5_about_21 (Nat.le_of_ble_eq_true rfl) (Nat.le_of_ble_eq_true rfl) rfl ?_
      refine V_iload_n hC kX5_about_24 rfl ?_
      refine V_cV_fI hC (cl_numberOf hWr a ⟨Int32.not_lt.mp h1, lu10.mp h7⟩ hR hI) mkX1_numberOf lmX5_108 kX5_about_25 (Nat.le_of_ble_eq_true rfl) rfl rfl rfl (Nat.le_of_ble_eq_true rfl) ⟨(Nat.le_of_ble_eq_true rfl), (Nat.le_of_ble_eq_true rfl)⟩ ⟨rfl, rfl⟩ ⟨(Nat.le_of_ble_eq_true rfl), (Nat.le_of_ble_eq_true rfl)⟩ ?_
      refine V_iretiX hC rfl kX5_about_28 ⟨(Nat.le_of_ble_eq_true rfl), (Nat.le_of_ble_eq_true rfl)⟩ ?_
      exact ⟨_, by with_reducible rfl, if_pos ⟨Int32.not_lt.mp h1, lu10.mp h7⟩, rfl, rfl⟩
    · refine V_thS hC hX (cls := "java/lang/IllegalArgumentException") (text := "what is 0 to 9") thc1 (by decide +kernel) rfl kX5_about_10 kX5_about_13 kX5_about_14 kX5_about_16 kX5_about_19 ⟨(Nat.le_of_ble_eq_true rfl), (Nat.le_of_ble_eq_true rfl)⟩ ⟨(Nat.le_of_ble_eq_true rfl), (Nat.le_of_ble_eq_true rfl)⟩ ?_
      first
      | exact pY1 (if_neg (ln10 (Or.inl h1)))
      | exact pY1 (if_neg (ln10 (Or.inr h7)))
def mtX5_lightOf : Mt := (yX5_lightOf, cX5_lightOf, 4, (some .int), 7, 221, 1, 6)
theorem kX5_lightOf_0 : Dk mtX5_lightOf 0 (.aload_n 0) 1 1 := ⟨by decide +kernel, rfl⟩
theorem kX5_lightOf_1 : Dk mtX5_lightOf 1 (.getfield 19) 3 4 := ⟨by decide +kernel, rfl⟩
theorem kX5_lightOf_4 : Dk mtX5_lightOf 4 (.iload_n 1) 1 5 := ⟨by decide +kernel, rfl⟩
theorem kX5_lightOf_5 : Dk mtX5_lightOf 5 (.invokevirtual 111) 3 8 := ⟨by decide +kernel, rfl⟩
theorem kX5_lightOf_8 : Dk mtX5_lightOf 8 (.astore_n 3) 1 9 := ⟨by decide +kernel, rfl⟩
theorem kX5_lightOf_9 : Dk mtX5_lightOf 9 (.aload_n 3) 1 10 := ⟨by decide +kernel, rfl⟩
theorem kX5_lightOf_10 : Dk mtX5_lightOf 10 (.ifnonnull 13) 3 13 := ⟨by decide +kernel, rfl⟩
theorem kX5_lightOf_13 : Dk mtX5_lightOf 13 (.new 115) 3 16 := ⟨by decide +kernel, rfl⟩
theorem kX5_lightOf_16 : Dk mtX5_lightOf 16 (.dup) 1 17 := ⟨by decide +kernel, rfl⟩
theorem kX5_lightOf_17 : Dk mtX5_lightOf 17 (.ldc 117) 2 19 := ⟨by decide +kernel, rfl⟩
theorem kX5_lightOf_19 : Dk mtX5_lightOf 19 (.invokespecial 119) 3 22 := ⟨by decide +kernel, rfl⟩
theorem kX5_lightOf_22 : Dk mtX5_lightOf 22 (.athrow) 1 23 := ⟨by decide +kernel, rfl⟩
theorem kX5_lightOf_23 : Dk mtX5_lightOf 23 (.iload_n 2) 1 24 := ⟨by decide +kernel, rfl⟩
theorem kX5_lightOf_24 : Dk mtX5_lightOf 24 (.ifCond .lt 9) 3 27 := ⟨by decide +kernel, rfl⟩
theorem kX5_lightOf_27 : Dk mtX5_lightOf 27 (.iload_n 2) 1 28 := ⟨by decide +kernel, rfl⟩
theorem kX5_lightOf_28 : Dk mtX5_lightOf 28 (.bipush 9) 2 30 := ⟨by decide +kernel, rfl⟩
theorem kX5_lightOf_30 : Dk mtX5_lightOf 30 (.if_icmp .lt 13) 3 33 := ⟨by decide +kernel, rfl⟩
theorem kX5_lightOf_33 : Dk mtX5_lightOf 33 (.new 33) 3 36 := ⟨by decide +kernel, rfl⟩
theorem kX5_lightOf_36 : Dk mtX5_lightOf 36 (.dup) 1 37 := ⟨by decide +kernel, rfl⟩
theorem kX5_lightOf_37 : Dk mtX5_lightOf 37 (.ldc 122) 2 39 := ⟨by decide +kernel, rfl⟩
theorem kX5_lightOf_39 : Dk mtX5_lightOf 39 (.invokespecial 37) 3 42 := ⟨by decide +kernel, rfl⟩
theorem kX5_lightOf_42 : Dk mtX5_lightOf 42 (.athrow) 1 43 := ⟨by decide +kernel, rfl⟩
theorem kX5_lightOf_43 : Dk mtX5_lightOf 43 (.aload_n 3) 1 44 := ⟨by decide +kernel, rfl⟩
theorem kX5_lightOf_44 : Dk mtX5_lightOf 44 (.iload_n 2) 1 45 := ⟨by decide +kernel, rfl⟩
theorem kX5_lightOf_45 : Dk mtX5_lightOf 45 (.invokevirtual 124) 3 48 := ⟨by decide +kernel, rfl⟩
theorem kX5_lightOf_48 : Dk mtX5_lightOf 48 (.ireturn) 1 49 := ⟨by decide +kernel, rfl⟩
theorem lmX5_111 : LkM RX5 111 mtX1_lightAt := Or.inl (by decide +kernel)
theorem lmX5_124 : LkM RX5 124 mtX2_numberOf := Or.inl (by decide +kernel)
theorem mkX2_numberOf : MkV mtX2_numberOf 1 := ⟨List.mem_of_getElem? (i := 635) (by decide +kernel), by decide +kernel, by decide +kernel, by decide +kernel, ⟨by decide +kernel, by decide +kernel, by decide +kernel⟩⟩
set_option maxHeartbeats 4000000 in
set_option maxRecDepth 100000 in
theorem cf_lightOf {l : Launch} {w : Wd} {sg : Sg} (hWr : Wr w) (hl0 : l.stackTraces = false) (a b : Int32) {x : Nat} {g : Gs} (hR : Rel sg (x + 4) g) (hI : Inv g) : MX l mtX5_lightOf w [vR (some (5, 0, x)), vI a, vI b] sg (rX (K_lightOf g a b) (fun r g2 => r = R_lightOf g a b ∧ g2 = sg)) (pY "java/lang/IndexOutOfBoundsException" "java/lang/IllegalArgumentException" "java/lang/IllegalArgumentException" (K_lightOf g a b) sg) := by
  refine MX_of hl0 [some (vR (some (5, 0, x))), some (vI a), some (vI b), none] rfl (Nat.le_of_ble_eq_true rfl) (by decide +kernel) ?_
  intro p_ e_ s_ m_ args_ below_ meth_ c_ hC hX hO
  rcases rg4 hI a with ⟨hin, n, hn, rfl⟩ | ⟨hin, hb⟩
  · refine V_aload_n hC kX5_lightOf_0 rfl ?_
    refine V_getR hC hWr 5 1 lfX5_19 kX5_lightOf_1 (Nat.le_of_ble_eq_true rfl) (Nat.le_of_ble_eq_true rfl) rfl ?_
    refine V_iload_n hC kX5_lightOf_4 rfl ?_
    refine V_cV_fR hC (cl_lightR hWr hR hI hn) mkX1_lightAt lmX5_111 kX5_lightOf_5 (Nat.le_of_ble_eq_true rfl) rfl rfl rfl (Nat.le_of_ble_eq_true rfl) ⟨(Nat.le_of_ble_eq_true rfl), (Nat.le_of_ble_eq_true rfl)⟩ ⟨rfl, rfl⟩ ⟨(Nat.le_of_ble_eq_true rfl), (Nat.le_of_ble_eq_true rfl)⟩ ?_
    refine V_astore_n hC [some _, some _, some _, some _] kX5_lightOf_8 rfl (Nat.le_of_ble_eq_true rfl) ?_
    refine V_aload_n hC kX5_lightOf_9 rfl ?_
    refine V_ifnonnull hC 23 kX5_lightOf_10 (by decide) (fun _ _ => ?_) (fun hq => by cases hq)
    refine V_iload_n hC kX5_lightOf_23 rfl ?_
    refine V_if_lt hC 33 kX5_lightOf_24 (by decide) (fun h24 => ?_) (fun h24 => ?_)
    · refine V_thS hC hX (cls := "java/lang/IllegalArgumentException") (text := "what is 0 to 8") thc1 (by decide +kernel) rfl kX5_lightOf_33 kX5_lightOf_36 kX5_lightOf_37 kX5_lightOf_39 kX5_lightOf_42 ⟨(Nat.le_of_ble_eq_true rfl), (Nat.le_of_ble_eq_true rfl)⟩ ⟨(Nat.le_of_ble_eq_true rfl), (Nat.le_of_ble_eq_true rfl)⟩ ?_
      first
      | exact pY2 ((if_pos hin).trans (if_neg (ln9 (Or.inl h24))))
      | exact pY2 ((if_pos hin).trans (if_neg (ln9 (Or.inr h30))))
    · refine V_iload_n hC kX5_lightOf_27 rfl ?_
      refine V_bipush hC (9) kX5_lightOf_28 (by decide) ?_
      refine V_icmp_lt hC 43 kX5_lightOf_30 (by decide) (fun h30 => ?_) (fun h30 => ?_)
      · refine V_aload_n hC kX5_lightOf_43 rfl ?_
        refine V_iload_n hC kX5_lightOf_44 rfl ?_
        refine V_cV_fI hC (cl_lnum hWr b ⟨Int32.not_lt.mp h24, lu9.mp h30⟩) mkX2_numberOf lmX5_124 kX5_lightOf_45 (Nat.le_of_ble_eq_true rfl) rfl rfl rfl (Nat.le_of_ble_eq_true rfl) ⟨(Nat.le_of_ble_eq_true rfl), (Nat.le_of_ble_eq_true rfl)⟩ ⟨rfl, rfl⟩ ⟨(Nat.le_of_ble_eq_true rfl), (Nat.le_of_ble_eq_true rfl)⟩ ?_
        refine V_iretiX hC rfl kX5_lightOf_48 ⟨(Nat.le_of_ble_eq_true rfl), (Nat.le_of_ble_eq_true rfl)⟩ ?_
        exact ⟨_, by with_reducible rfl, (if_pos hin).trans (if_pos ⟨Int32.not_lt.mp h24, lu9.mp h30⟩), lnum_eq hR hI hn ⟨Int32.not_lt.mp h24, lu9.mp h30⟩, rfl⟩
      · refine V_thS hC hX (cls := "java/lang/IllegalArgumentException") (text := "what is 0 to 8") thc1 (by decide +kernel) rfl kX5_lightOf_33 kX5_lightOf_36 kX5_lightOf_37 kX5_lightOf_39 kX5_lightOf_42 ⟨(Nat.le_of_ble_eq_true rfl), (Nat.le_of_ble_eq_true rfl)⟩ ⟨(Nat.le_of_ble_eq_true rfl), (Nat.le_of_ble_eq_true rfl)⟩ ?_
        first
        | exact pY2 ((if_pos hin).trans (if_neg (ln9 (Or.inl h24))))
        | exact pY2 ((if_pos hin).trans (if_neg (ln9 (Or.inr h30))))
  · refine V_aload_n hC kX5_lightOf_0 rfl ?_
    refine V_getR hC hWr 5 1 lfX5_19 kX5_lightOf_1 (Nat.le_of_ble_eq_true rfl) (Nat.le_of_ble_eq_true rfl) rfl ?_
    refine V_iload_n hC kX5_lightOf_4 rfl ?_
    refine V_cV_fR hC (cl_lightN hWr hR hb) mkX1_lightAt lmX5_111 kX5_lightOf_5 (Nat.le_of_ble_eq_true rfl) rfl rfl rfl (Nat.le_of_ble_eq_true rfl) ⟨(Nat.le_of_ble_eq_true rfl), (Nat.le_of_ble_eq_true rfl)⟩ ⟨rfl, rfl⟩ ⟨(Nat.le_of_ble_eq_true rfl), (Nat.le_of_ble_eq_true rfl)⟩ ?_
    refine V_astore_n hC [some _, some _, some _, some _] kX5_lightOf_8 rfl (Nat.le_of_ble_eq_true rfl) ?_
    refine V_aload_n hC kX5_lightOf_9 rfl ?_
    refine V_ifnonnull hC 23 kX5_lightOf_10 (by decide) (fun _ hq => by cases hq) (fun _ => ?_)
    refine V_thS hC hX (cls := "java/lang/IndexOutOfBoundsException") (text := "no such lighthouse") thc3 (by decide +kernel) rfl kX5_lightOf_13 kX5_lightOf_16 kX5_lightOf_17 kX5_lightOf_19 kX5_lightOf_22 ⟨(Nat.le_of_ble_eq_true rfl), (Nat.le_of_ble_eq_true rfl)⟩ ⟨(Nat.le_of_ble_eq_true rfl), (Nat.le_of_ble_eq_true rfl)⟩ ?_
    exact pY1 (if_neg hin)
def mtX5_boatOf : Mt := (yX5_boatOf, cX5_boatOf, 4, (some .int), 7, 221, 1, 6)
theorem kX5_boatOf_0 : Dk mtX5_boatOf 0 (.aload_n 0) 1 1 := ⟨by decide +kernel, rfl⟩
theorem kX5_boatOf_1 : Dk mtX5_boatOf 1 (.getfield 19) 3 4 := ⟨by decide +kernel, rfl⟩
theorem kX5_boatOf_4 : Dk mtX5_boatOf 4 (.iload_n 1) 1 5 := ⟨by decide +kernel, rfl⟩
theorem kX5_boatOf_5 : Dk mtX5_boatOf 5 (.invokevirtual 125) 3 8 := ⟨by decide +kernel, rfl⟩
theorem kX5_boatOf_8 : Dk mtX5_boatOf 8 (.astore_n 3) 1 9 := ⟨by decide +kernel, rfl⟩
theorem kX5_boatOf_9 : Dk mtX5_boatOf 9 (.aload_n 3) 1 10 := ⟨by decide +kernel, rfl⟩
theorem kX5_boatOf_10 : Dk mtX5_boatOf 10 (.ifnonnull 13) 3 13 := ⟨by decide +kernel, rfl⟩
theorem kX5_boatOf_13 : Dk mtX5_boatOf 13 (.new 115) 3 16 := ⟨by decide +kernel, rfl⟩
theorem kX5_boatOf_16 : Dk mtX5_boatOf 16 (.dup) 1 17 := ⟨by decide +kernel, rfl⟩
theorem kX5_boatOf_17 : Dk mtX5_boatOf 17 (.ldc 129) 2 19 := ⟨by decide +kernel, rfl⟩
theorem kX5_boatOf_19 : Dk mtX5_boatOf 19 (.invokespecial 119) 3 22 := ⟨by decide +kernel, rfl⟩
theorem kX5_boatOf_22 : Dk mtX5_boatOf 22 (.athrow) 1 23 := ⟨by decide +kernel, rfl⟩
theorem kX5_boatOf_23 : Dk mtX5_boatOf 23 (.iload_n 2) 1 24 := ⟨by decide +kernel, rfl⟩
theorem kX5_boatOf_24 : Dk mtX5_boatOf 24 (.ifCond .lt 9) 3 27 := ⟨by decide +kernel, rfl⟩
theorem kX5_boatOf_27 : Dk mtX5_boatOf 27 (.iload_n 2) 1 28 := ⟨by decide +kernel, rfl⟩
theorem kX5_boatOf_28 : Dk mtX5_boatOf 28 (.bipush 9) 2 30 := ⟨by decide +kernel, rfl⟩
theorem kX5_boatOf_30 : Dk mtX5_boatOf 30 (.if_icmp .lt 13) 3 33 := ⟨by decide +kernel, rfl⟩
theorem kX5_boatOf_33 : Dk mtX5_boatOf 33 (.new 33) 3 36 := ⟨by decide +kernel, rfl⟩
theorem kX5_boatOf_36 : Dk mtX5_boatOf 36 (.dup) 1 37 := ⟨by decide +kernel, rfl⟩
theorem kX5_boatOf_37 : Dk mtX5_boatOf 37 (.ldc 122) 2 39 := ⟨by decide +kernel, rfl⟩
theorem kX5_boatOf_39 : Dk mtX5_boatOf 39 (.invokespecial 37) 3 42 := ⟨by decide +kernel, rfl⟩
theorem kX5_boatOf_42 : Dk mtX5_boatOf 42 (.athrow) 1 43 := ⟨by decide +kernel, rfl⟩
theorem kX5_boatOf_43 : Dk mtX5_boatOf 43 (.aload_n 3) 1 44 := ⟨by decide +kernel, rfl⟩
theorem kX5_boatOf_44 : Dk mtX5_boatOf 44 (.iload_n 2) 1 45 := ⟨by decide +kernel, rfl⟩
theorem kX5_boatOf_45 : Dk mtX5_boatOf 45 (.invokevirtual 133) 3 48 := ⟨by decide +kernel, rfl⟩
theorem kX5_boatOf_48 : Dk mtX5_boatOf 48 (.ireturn) 1 49 := ⟨by decide +kernel, rfl⟩
theorem lmX5_133 : LkM RX5 133 mtX0_numberOf := Or.inl (by decide +kernel)
theorem mkX0_numberOf : MkV mtX0_numberOf 1 := ⟨List.mem_of_getElem? (i := 645) (by decide +kernel), by decide +kernel, by decide +kernel, by decide +kernel, ⟨by decide +kernel, by decide +kernel, by decide +kernel⟩⟩
set_option maxHeartbeats 4000000 in
set_option maxRecDepth 100000 in
theorem cf_boatOf {l : Launch} {w : Wd} {sg : Sg} (hWr : Wr w) (hl0 : l.stackTraces = false) (a b : Int32) {x : Nat} {g : Gs} (hR : Rel sg (x + 4) g) (hI : Inv g) : MX l mtX5_boatOf w [vR (some (5, 0, x)), vI a, vI b] sg (rX (K_boatOf g a b) (fun r g2 => r = R_boatOf g a b ∧ g2 = sg)) (pY "java/lang/IndexOutOfBoundsException" "java/lang/IllegalArgumentException" "java/lang/IllegalArgumentException" (K_boatOf g a b) sg) := by
  refine MX_of hl0 [some (vR (some (5, 0, x))), some (vI a), some (vI b), none] rfl (Nat.le_of_ble_eq_true rfl) (by decide +kernel) ?_
  intro p_ e_ s_ m_ args_ below_ meth_ c_ hC hX hO
  rcases rg5 hI a with ⟨hin, n, hn, rfl⟩ | ⟨hin, hb⟩
  · refine V_aload_n hC kX5_boatOf_0 rfl ?_
    refine V_getR hC hWr 5 1 lfX5_19 kX5_boatOf_1 (Nat.le_of_ble_eq_true rfl) (Nat.le_of_ble_eq_true rfl) rfl ?_
    refine V_iload_n hC kX5_boatOf_4 rfl ?_
    refine V_cV_fR hC (cl_boatR hWr hR hI hn) mkX1_boatAt lmX5_125 kX5_boatOf_5 (Nat.le_of_ble_eq_true rfl) rfl rfl rfl (Nat.le_of_ble_eq_true rfl) ⟨(Nat.le_of_ble_eq_true rfl), (Nat.le_of_ble_eq_true rfl)⟩ ⟨rfl, rfl⟩ ⟨(Nat.le_of_ble_eq_true rfl), (Nat.le_of_ble_eq_true rfl)⟩ ?_
    refine V_astore_n hC [some _, some _, some _, some _] kX5_boatOf_8 rfl (Nat.le_of_ble_eq_true rfl) ?_
    refine V_aload_n hC kX5_boatOf_9 rfl ?_
    refine V_ifnonnull hC 23 kX5_boatOf_10 (by decide) (fun _ _ => ?_) (fun hq => by cases hq)
    refine V_iload_n hC kX5_boatOf_23 rfl ?_
    refine V_if_lt hC 33 kX5_boatOf_24 (by decide) (fun h24 => ?_) (fun h24 => ?_)
    · refine V_thS hC hX (cls := "java/lang/IllegalArgumentException") (text := "what is 0 to 8") thc1 (by decide +kernel) rfl kX5_boatOf_33 kX5_boatOf_36 kX5_boatOf_37 kX5_boatOf_39 kX5_boatOf_42 ⟨(Nat.le_of_ble_eq_true rfl), (Nat.le_of_ble_eq_true rfl)⟩ ⟨(Nat.le_of_ble_eq_true rfl), (Nat.le_of_ble_eq_true rfl)⟩ ?_
      first
      | exact pY2 ((if_pos hin).trans (if_neg (ln9 (Or.inl h24))))
      | exact pY2 ((if_pos hin).trans (if_neg (ln9 (Or.inr h30))))
    · refine V_iload_n hC kX5_boatOf_27 rfl ?_
      refine V_bipush hC (9) kX5_boatOf_28 (by decide) ?_
      refine V_icmp_lt hC 43 kX5_boatOf_30 (by decide) (fun h30 => ?_) (fun h30 => ?_)
      · refine V_aload_n hC kX5_boatOf_43 rfl ?_
        refine V_iload_n hC kX5_boatOf_44 rfl ?_
        refine V_cV_fI hC (cl_bnum hWr b ⟨Int32.not_lt.mp h24, lu9.mp h30⟩) mkX0_numberOf lmX5_133 kX5_boatOf_45 (Nat.le_of_ble_eq_true rfl) rfl rfl rfl (Nat.le_of_ble_eq_true rfl) ⟨(Nat.le_of_ble_eq_true rfl), (Nat.le_of_ble_eq_true rfl)⟩ ⟨rfl, rfl⟩ ⟨(Nat.le_of_ble_eq_true rfl), (Nat.le_of_ble_eq_true rfl)⟩ ?_
        refine V_iretiX hC rfl kX5_boatOf_48 ⟨(Nat.le_of_ble_eq_true rfl), (Nat.le_of_ble_eq_true rfl)⟩ ?_
        exact ⟨_, by with_reducible rfl, (if_pos hin).trans (if_pos ⟨Int32.not_lt.mp h24, lu9.mp h30⟩), bnum_eq hR hI hn ⟨Int32.not_lt.mp h24, lu9.mp h30⟩, rfl⟩
      · refine V_thS hC hX (cls := "java/lang/IllegalArgumentException") (text := "what is 0 to 8") thc1 (by decide +kernel) rfl kX5_boatOf_33 kX5_boatOf_36 kX5_boatOf_37 kX5_boatOf_39 kX5_boatOf_42 ⟨(Nat.le_of_ble_eq_true rfl), (Nat.le_of_ble_eq_true rfl)⟩ ⟨(Nat.le_of_ble_eq_true rfl), (Nat.le_of_ble_eq_true rfl)⟩ ?_
        first
        | exact pY2 ((if_pos hin).trans (if_neg (ln9 (Or.inl h24))))
        | exact pY2 ((if_pos hin).trans (if_neg (ln9 (Or.inr h30))))
  · refine V_aload_n hC kX5_boatOf_0 rfl ?_
    refine V_getR hC hWr 5 1 lfX5_19 kX5_boatOf_1 (Nat.le_of_ble_eq_true rfl) (Nat.le_of_ble_eq_true rfl) rfl ?_
    refine V_iload_n hC kX5_boatOf_4 rfl ?_
    refine V_cV_fR hC (cl_boatN hWr hR hb) mkX1_boatAt lmX5_125 kX5_boatOf_5 (Nat.le_of_ble_eq_true rfl) rfl rfl rfl (Nat.le_of_ble_eq_true rfl) ⟨(Nat.le_of_ble_eq_true rfl), (Nat.le_of_ble_eq_true rfl)⟩ ⟨rfl, rfl⟩ ⟨(Nat.le_of_ble_eq_true rfl), (Nat.le_of_ble_eq_true rfl)⟩ ?_
    refine V_astore_n hC [some _, some _, some _, some _] kX5_boatOf_8 rfl (Nat.le_of_ble_eq_true rfl) ?_
    refine V_aload_n hC kX5_boatOf_9 rfl ?_
    refine V_ifnonnull hC 23 kX5_boatOf_10 (by decide) (fun _ hq => by cases hq) (fun _ => ?_)
    refine V_thS hC hX (cls := "java/lang/IndexOutOfBoundsException") (text := "no such boat") thc3 (by decide +kernel) rfl kX5_boatOf_13 kX5_boatOf_16 kX5_boatOf_17 kX5_boatOf_19 kX5_boatOf_22 ⟨(Nat.le_of_ble_eq_true rfl), (Nat.le_of_ble_eq_true rfl)⟩ ⟨(Nat.le_of_ble_eq_true rfl), (Nat.le_of_ble_eq_true rfl)⟩ ?_
    exact pY1 (if_neg hin)
theorem lmX5_134 : LkM RX5 134 mtX5_isPlace := Or.inl (by decide +kernel)
theorem lfX5_140 : LkF RX5 140 1 5 := Or.inr (by decide +kernel)
def mtX5_bestAt : Mt := (yX5_bestAt, cX5_bestAt, 5, (some .int), 7, 221, 1, 6)
theorem kX5_bestAt_0 : Dk mtX5_bestAt 0 (.iload_n 1) 1 1 := ⟨by decide +kernel, rfl⟩
theorem kX5_bestAt_1 : Dk mtX5_bestAt 1 (.invokestatic 134) 3 4 := ⟨by decide +kernel, rfl⟩
theorem kX5_bestAt_4 : Dk mtX5_bestAt 4 (.ifCond .ne 13) 3 7 := ⟨by decide +kernel, rfl⟩
theorem kX5_bestAt_7 : Dk mtX5_bestAt 7 (.new 115) 3 10 := ⟨by decide +kernel, rfl⟩
theorem kX5_bestAt_10 : Dk mtX5_bestAt 10 (.dup) 1 11 := ⟨by decide +kernel, rfl⟩
theorem kX5_bestAt_11 : Dk mtX5_bestAt 11 (.ldc 147) 2 13 := ⟨by decide +kernel, rfl⟩
theorem kX5_bestAt_13 : Dk mtX5_bestAt 13 (.invokespecial 119) 3 16 := ⟨by decide +kernel, rfl⟩
theorem kX5_bestAt_16 : Dk mtX5_bestAt 16 (.athrow) 1 17 := ⟨by decide +kernel, rfl⟩
theorem kX5_bestAt_17 : Dk mtX5_bestAt 17 (.iload_n 2) 1 18 := ⟨by decide +kernel, rfl⟩
theorem kX5_bestAt_18 : Dk mtX5_bestAt 18 (.ifCond .eq 18) 3 21 := ⟨by decide +kernel, rfl⟩
theorem kX5_bestAt_21 : Dk mtX5_bestAt 21 (.iload_n 2) 1 22 := ⟨by decide +kernel, rfl⟩
theorem kX5_bestAt_22 : Dk mtX5_bestAt 22 (.iconst 1) 1 23 := ⟨by decide +kernel, rfl⟩
theorem kX5_bestAt_23 : Dk mtX5_bestAt 23 (.if_icmp .eq 13) 3 26 := ⟨by decide +kernel, rfl⟩
theorem kX5_bestAt_26 : Dk mtX5_bestAt 26 (.new 33) 3 29 := ⟨by decide +kernel, rfl⟩
theorem kX5_bestAt_29 : Dk mtX5_bestAt 29 (.dup) 1 30 := ⟨by decide +kernel, rfl⟩
theorem kX5_bestAt_30 : Dk mtX5_bestAt 30 (.ldc 149) 2 32 := ⟨by decide +kernel, rfl⟩
theorem kX5_bestAt_32 : Dk mtX5_bestAt 32 (.invokespecial 37) 3 35 := ⟨by decide +kernel, rfl⟩
theorem kX5_bestAt_35 : Dk mtX5_bestAt 35 (.athrow) 1 36 := ⟨by decide +kernel, rfl⟩
theorem kX5_bestAt_36 : Dk mtX5_bestAt 36 (.aload_n 0) 1 37 := ⟨by decide +kernel, rfl⟩
theorem kX5_bestAt_37 : Dk mtX5_bestAt 37 (.getfield 19) 3 40 := ⟨by decide +kernel, rfl⟩
theorem kX5_bestAt_40 : Dk mtX5_bestAt 40 (.iload_n 1) 1 41 := ⟨by decide +kernel, rfl⟩
theorem kX5_bestAt_41 : Dk mtX5_bestAt 41 (.invokevirtual 151) 3 44 := ⟨by decide +kernel, rfl⟩
theorem kX5_bestAt_44 : Dk mtX5_bestAt 44 (.istore_n 3) 1 45 := ⟨by decide +kernel, rfl⟩
theorem kX5_bestAt_45 : Dk mtX5_bestAt 45 (.iload_n 2) 1 46 := ⟨by decide +kernel, rfl⟩
theorem kX5_bestAt_46 : Dk mtX5_bestAt 46 (.ifCond .ne 5) 3 49 := ⟨by decide +kernel, rfl⟩
theorem kX5_bestAt_49 : Dk mtX5_bestAt 49 (.iload_n 3) 1 50 := ⟨by decide +kernel, rfl⟩
theorem kX5_bestAt_50 : Dk mtX5_bestAt 50 (.ireturn) 1 51 := ⟨by decide +kernel, rfl⟩
theorem kX5_bestAt_51 : Dk mtX5_bestAt 51 (.aload_n 0) 1 52 := ⟨by decide +kernel, rfl⟩
theorem kX5_bestAt_52 : Dk mtX5_bestAt 52 (.getfield 19) 3 55 := ⟨by decide +kernel, rfl⟩
theorem kX5_bestAt_55 : Dk mtX5_bestAt 55 (.iload_n 3) 1 56 := ⟨by decide +kernel, rfl⟩
theorem kX5_bestAt_56 : Dk mtX5_bestAt 56 (.invokevirtual 111) 3 59 := ⟨by decide +kernel, rfl⟩
theorem kX5_bestAt_59 : Dk mtX5_bestAt 59 (.astore 4) 2 61 := ⟨by decide +kernel, rfl⟩
theorem kX5_bestAt_61 : Dk mtX5_bestAt 61 (.aload 4) 2 63 := ⟨by decide +kernel, rfl⟩
theorem kX5_bestAt_63 : Dk mtX5_bestAt 63 (.ifnonnull 7) 3 66 := ⟨by decide +kernel, rfl⟩
theorem kX5_bestAt_66 : Dk mtX5_bestAt 66 (.iconst 0) 1 67 := ⟨by decide +kernel, rfl⟩
theorem kX5_bestAt_67 : Dk mtX5_bestAt 67 (.goto 16) 3 70 := ⟨by decide +kernel, rfl⟩
theorem kX5_bestAt_70 : Dk mtX5_bestAt 70 (.aload 4) 2 72 := ⟨by decide +kernel, rfl⟩
theorem kX5_bestAt_72 : Dk mtX5_bestAt 72 (.iload_n 1) 1 73 := ⟨by decide +kernel, rfl⟩
theorem kX5_bestAt_73 : Dk mtX5_bestAt 73 (.aload_n 0) 1 74 := ⟨by decide +kernel, rfl⟩
theorem kX5_bestAt_74 : Dk mtX5_bestAt 74 (.getfield 19) 3 77 := ⟨by decide +kernel, rfl⟩
theorem kX5_bestAt_77 : Dk mtX5_bestAt 77 (.getfield 140) 3 80 := ⟨by decide +kernel, rfl⟩
theorem kX5_bestAt_80 : Dk mtX5_bestAt 80 (.invokevirtual 154) 3 83 := ⟨by decide +kernel, rfl⟩
theorem kX5_bestAt_83 : Dk mtX5_bestAt 83 (.ireturn) 1 84 := ⟨by decide +kernel, rfl⟩
theorem lmX5_151 : LkM RX5 151 mtX1_brightest := Or.inl (by decide +kernel)
theorem mkX1_brightest : MkV mtX1_brightest 1 := ⟨List.mem_of_getElem? (i := 350) (by decide +kernel), by decide +kernel, by decide +kernel, by decide +kernel, ⟨by decide +kernel, by decide +kernel, by decide +kernel⟩⟩
theorem lmX5_154 : LkM RX5 154 mtX2_worthAt := Or.inl (by decide +kernel)
set_option maxHeartbeats 4000000 in
set_option maxRecDepth 100000 in
theorem cf_bestAt {l : Launch} {w : Wd} {sg : Sg} (hWr : Wr w) (hl0 : l.stackTraces = false) (a b : Int32) {x : Nat} {g : Gs} (hR : Rel sg (x + 4) g) (hI : Inv g) : MX l mtX5_bestAt w [vR (some (5, 0, x)), vI a, vI b] sg (rX (K_bestAt a b) (fun r g2 => r = R_bestAt g a b ∧ g2 = sg)) (pY "java/lang/IndexOutOfBoundsException" "java/lang/IllegalArgumentException" "java/lang/IllegalArgumentException" (K_bestAt a b) sg) := by
  refine MX_of hl0 [some (vR (some (5, 0, x))), some (vI a), some (vI b), none, none] rfl (Nat.le_of_ble_eq_true rfl) (by decide +kernel) ?_
  intro p_ e_ s_ m_ args_ below_ meth_ c_ hC hX hO
  refine V_iload_n hC kX5_bestAt_0 rfl ?_
  refine V_cS_fI hC (cl_isPlace hWr _) mkX5_isPlace lmX5_134 kX5_bestAt_1 rfl rfl (Nat.le_of_ble_eq_true rfl) ⟨(Nat.le_of_ble_eq_true rfl), (Nat.le_of_ble_eq_true rfl)⟩ ⟨rfl, rfl⟩ ⟨(Nat.le_of_ble_eq_true rfl), (Nat.le_of_ble_eq_true rfl)⟩ ?_
  refine V_if_ne hC 17 kX5_bestAt_4 (by decide) (fun h4 => ?_) (fun h4 => ?_)
  · refine V_iload_n hC kX5_bestAt_17 rfl ?_
    refine V_if_eq hC 36 kX5_bestAt_18 (by decide) (fun h18 => ?_) (fun h18 => ?_)
    · refine V_aload_n hC kX5_bestAt_36 rfl ?_
      refine V_getR hC hWr 5 1 lfX5_19 kX5_bestAt_37 (Nat.le_of_ble_eq_true rfl) (Nat.le_of_ble_eq_true rfl) rfl ?_
      refine V_iload_n hC kX5_bestAt_40 rfl ?_
      refine V_cV_fI hC (cl_brightest hWr a (inn_I (b01n.mp h4)) hR hI) mkX1_brightest lmX5_151 kX5_bestAt_41 (Nat.le_of_ble_eq_true rfl) rfl rfl rfl (Nat.le_of_ble_eq_true rfl) ⟨(Nat.le_of_ble_eq_true rfl), (Nat.le_of_ble_eq_true rfl)⟩ ⟨rfl, rfl⟩ ⟨(Nat.le_of_ble_eq_true rfl), (Nat.le_of_ble_eq_true rfl)⟩ ?_
      refine V_istore_n hC [some _, some _, some _, some _, none] kX5_bestAt_44 rfl (Nat.le_of_ble_eq_true rfl) ?_
      refine V_iload_n hC kX5_bestAt_45 rfl ?_
      refine V_if_ne hC 51 kX5_bestAt_46 (by decide) (fun h46 => ?_) (fun h46 => ?_)
      · obtain ⟨fb, efb⟩ : ∃ fb, fb = F_best g a := ⟨_, rfl⟩
        rw [← efb]
        rcases F_bestN_in g a (tn (g 4)) with hbb | ⟨n, hn, hbb⟩
        · have hb1 : fb = -1 := efb.trans hbb
          refine V_aload_n hC kX5_bestAt_51 rfl ?_
          refine V_getR hC hWr 5 1 lfX5_19 kX5_bestAt_52 (Nat.le_of_ble_eq_true rfl) (Nat.le_of_ble_eq_true rfl) rfl ?_
          refine V_iload_n hC kX5_bestAt_55 rfl ?_
          refine V_cV_fR hC (cl_lightN hWr hR (Or.inl (by rw [hb1]; decide))) mkX1_lightAt lmX5_111 kX5_bestAt_56 (Nat.le_of_ble_eq_true rfl) rfl rfl rfl (Nat.le_of_ble_eq_true rfl) ⟨(Nat.le_of_ble_eq_true rfl), (Nat.le_of_ble_eq_true rfl)⟩ ⟨rfl, rfl⟩ ⟨(Nat.le_of_ble_eq_true rfl), (Nat.le_of_ble_eq_true rfl)⟩ ?_
          refine V_astore hC [some _, some _, some _, some _, some _] kX5_bestAt_59 rfl (Nat.le_of_ble_eq_true rfl) ?_
          refine V_aload hC kX5_bestAt_61 rfl ?_
          refine V_ifnonnull hC 70 kX5_bestAt_63 (by decide) (fun _ hq => by cases hq) (fun _ => ?_)
          refine V_iconst hC (0) kX5_bestAt_66 (by decide) ?_
          refine V_goto hC 83 kX5_bestAt_67 (by decide) ?_
          refine V_iretiX hC rfl kX5_bestAt_83 ⟨(Nat.le_of_ble_eq_true rfl), (Nat.le_of_ble_eq_true rfl)⟩ ?_
          have hb01 : inn b 0 1 := by
            first
            | exact in01 (Or.inl h18)
            | exact in01 (Or.inr h23)
          first
          | exact ⟨_, by with_reducible rfl, (if_pos (b01n.mp h4)).trans (if_pos hb01), by rw [R_bestAt, if_neg h46, ← efb, if_pos hb1], rfl⟩
          | exact ⟨_, by with_reducible rfl, (if_pos (b01n.mp h4)).trans (if_pos hb01), by rw [R_bestAt, if_neg h46, ← efb, if_neg (nI_m1 (by have := hI.c4.1; omega))]; exact hR.worth hI hn a, rfl⟩
        · have hb1 : fb = nI n := efb.trans hbb
          subst hb1
          refine V_aload_n hC kX5_bestAt_51 rfl ?_
          refine V_getR hC hWr 5 1 lfX5_19 kX5_bestAt_52 (Nat.le_of_ble_eq_true rfl) (Nat.le_of_ble_eq_true rfl) rfl ?_
          refine V_iload_n hC kX5_bestAt_55 rfl ?_
          refine V_cV_fR hC (cl_lightR hWr hR hI hn) mkX1_lightAt lmX5_111 kX5_bestAt_56 (Nat.le_of_ble_eq_true rfl) rfl rfl rfl (Nat.le_of_ble_eq_true rfl) ⟨(Nat.le_of_ble_eq_true rfl), (Nat.le_of_ble_eq_true rfl)⟩ ⟨rfl, rfl⟩ ⟨(Nat.le_of_ble_eq_true rfl), (Nat.le_of_ble_eq_true rfl)⟩ ?_
          refine V_astore hC [some _, some _, some _, some _, some _] kX5_bestAt_59 rfl (Nat.le_of_ble_eq_true rfl) ?_
          refine V_aload hC kX5_bestAt_61 rfl ?_
          refine V_ifnonnull hC 70 kX5_bestAt_63 (by decide) (fun _ _ => ?_) (fun hq => by cases hq)
          refine V_aload hC kX5_bestAt_70 rfl ?_
          refine V_iload_n hC kX5_bestAt_72 rfl ?_
          refine V_aload_n hC kX5_bestAt_73 rfl ?_
          refine V_getR hC hWr 5 1 lfX5_19 kX5_bestAt_74 (Nat.le_of_ble_eq_true rfl) (Nat.le_of_ble_eq_true rfl) rfl ?_
          refine V_getI hC 1 5 lfX5_140 kX5_bestAt_77 (Nat.le_of_ble_eq_true rfl) (Nat.le_of_ble_eq_true rfl) rfl ?_
          refine V_cV_fI hC (cl_worth hWr a _ (hR.okW hI hn (inn_I (b01n.mp h4)))) mkX2_worthAt lmX5_154 kX5_bestAt_80 (Nat.le_of_ble_eq_true rfl) rfl rfl rfl (Nat.le_of_ble_eq_true rfl) ⟨(Nat.le_of_ble_eq_true rfl), (Nat.le_of_ble_eq_true rfl)⟩ ⟨rfl, rfl⟩ ⟨(Nat.le_of_ble_eq_true rfl), (Nat.le_of_ble_eq_true rfl)⟩ ?_
          refine V_iretiX hC rfl kX5_bestAt_83 ⟨(Nat.le_of_ble_eq_true rfl), (Nat.le_of_ble_eq_true rfl)⟩ ?_
          have hb01 : inn b 0 1 := by
            first
            | exact in01 (Or.inl h18)
            | exact in01 (Or.inr h23)
          first
          | exact ⟨_, by with_reducible rfl, (if_pos (b01n.mp h4)).trans (if_pos hb01), by rw [R_bestAt, if_neg h46, ← efb, if_pos hb1], rfl⟩
          | exact ⟨_, by with_reducible rfl, (if_pos (b01n.mp h4)).trans (if_pos hb01), by rw [R_bestAt, if_neg h46, ← efb, if_neg (nI_m1 (by have := hI.c4.1; omega))]; exact hR.worth hI hn a, rfl⟩
      · refine V_iload_n hC kX5_bestAt_49 rfl ?_
        refine V_iretiX hC rfl kX5_bestAt_50 ⟨(Nat.le_of_ble_eq_true rfl), (Nat.le_of_ble_eq_true rfl)⟩ ?_
        exact ⟨_, by with_reducible rfl, (if_pos (b01n.mp h4)).trans (if_pos (in01 (Or.inl h46))), (if_pos h46).symm, rfl⟩
    · refine V_iload_n hC kX5_bestAt_21 rfl ?_
      refine V_iconst hC (1) kX5_bestAt_22 (by decide) ?_
      refine V_icmp_eq hC 36 kX5_bestAt_23 (by decide) (fun h23 => ?_) (fun h23 => ?_)
      · refine V_aload_n hC kX5_bestAt_36 rfl ?_
        refine V_getR hC hWr 5 1 lfX5_19 kX5_bestAt_37 (Nat.le_of_ble_eq_true rfl) (Nat.le_of_ble_eq_true rfl) rfl ?_
        refine V_iload_n hC kX5_bestAt_40 rfl ?_
        refine V_cV_fI hC (cl_brightest hWr a (inn_I (b01n.mp h4)) hR hI) mkX1_brightest lmX5_151 kX5_bestAt_41 (Nat.le_of_ble_eq_true rfl) rfl rfl rfl (Nat.le_of_ble_eq_true rfl) ⟨(Nat.le_of_ble_eq_true rfl), (Nat.le_of_ble_eq_true rfl)⟩ ⟨rfl, rfl⟩ ⟨(Nat.le_of_ble_eq_true rfl), (Nat.le_of_ble_eq_true rfl)⟩ ?_
        refine V_istore_n hC [some _, some _, some _, some _, none] kX5_bestAt_44 rfl (Nat.le_of_ble_eq_true rfl) ?_
        refine V_iload_n hC kX5_bestAt_45 rfl ?_
        refine V_if_ne hC 51 kX5_bestAt_46 (by decide) (fun h46 => ?_) (fun h46 => ?_)
        · obtain ⟨fb, efb⟩ : ∃ fb, fb = F_best g a := ⟨_, rfl⟩
          rw [← efb]
          rcases F_bestN_in g a (tn (g 4)) with hbb | ⟨n, hn, hbb⟩
          · have hb1 : fb = -1 := efb.trans hbb
            refine V_aload_n hC kX5_bestAt_51 rfl ?_
            refine V_getR hC hWr 5 1 lfX5_19 kX5_bestAt_52 (Nat.le_of_ble_eq_true rfl) (Nat.le_of_ble_eq_true rfl) rfl ?_
            refine V_iload_n hC kX5_bestAt_55 rfl ?_
            refine V_cV_fR hC (cl_lightN hWr hR (Or.inl (by rw [hb1]; decide))) mkX1_lightAt lmX5_111 kX5_bestAt_56 (Nat.le_of_ble_eq_true rfl) rfl rfl rfl (Nat.le_of_ble_eq_true rfl) ⟨(Nat.le_of_ble_eq_true rfl), (Nat.le_of_ble_eq_true rfl)⟩ ⟨rfl, rfl⟩ ⟨(Nat.le_of_ble_eq_true rfl), (Nat.le_of_ble_eq_true rfl)⟩ ?_
            refine V_astore hC [some _, some _, some _, some _, some _] kX5_bestAt_59 rfl (Nat.le_of_ble_eq_true rfl) ?_
            refine V_aload hC kX5_bestAt_61 rfl ?_
            refine V_ifnonnull hC 70 kX5_bestAt_63 (by decide) (fun _ hq => by cases hq) (fun _ => ?_)
            refine V_iconst hC (0) kX5_bestAt_66 (by decide) ?_
            refine V_goto hC 83 kX5_bestAt_67 (by decide) ?_
            refine V_iretiX hC rfl kX5_bestAt_83 ⟨(Nat.le_of_ble_eq_true rfl), (Nat.le_of_ble_eq_true rfl)⟩ ?_
            have hb01 : inn b 0 1 := by
              first
              | exact in01 (Or.inl h18)
              | exact in01 (Or.inr h23)
            first
            | exact ⟨_, by with_reducible rfl, (if_pos (b01n.mp h4)).trans (if_pos hb01), by rw [R_bestAt, if_neg h46, ← efb, if_pos hb1], rfl⟩
            | exact ⟨_, by with_reducible rfl, (if_pos (b01n.mp h4)).trans (if_pos hb01), by rw [R_bestAt, if_neg h46, ← efb, if_neg (nI_m1 (by have := hI.c4.1; omega))]; exact hR.worth hI hn a, rfl⟩
          · have hb1 : fb = nI n := efb.trans hbb
            subst hb1
            refine V_aload_n hC kX5_bestAt_51 rfl ?_
            refine V_getR hC hWr 5 1 lfX5_19 kX5_bestAt_52 (Nat.le_of_ble_eq_true rfl) (Nat.le_of_ble_eq_true rfl) rfl ?_
            refine V_iload_n hC kX5_bestAt_55 rfl ?_
            refine V_cV_fR hC (cl_lightR hWr hR hI hn) mkX1_lightAt lmX5_111 kX5_bestAt_56 (Nat.le_of_ble_eq_true rfl) rfl rfl rfl (Nat.le_of_ble_eq_true rfl) ⟨(Nat.le_of_ble_eq_true rfl), (Nat.le_of_ble_eq_true rfl)⟩ ⟨rfl, rfl⟩ ⟨(Nat.le_of_ble_eq_true rfl), (Nat.le_of_ble_eq_true rfl)⟩ ?_
            refine V_astore hC [some _, some _, some _, some _, some _] kX5_bestAt_59 rfl (Nat.le_of_ble_eq_true rfl) ?_
            refine V_aload hC kX5_bestAt_61 rfl ?_
            refine V_ifnonnull hC 70 kX5_bestAt_63 (by decide) (fun _ _ => ?_) (fun hq => by cases hq)
            refine V_aload hC kX5_bestAt_70 rfl ?_
            refine V_iload_n hC kX5_bestAt_72 rfl ?_
            refine V_aload_n hC kX5_bestAt_73 rfl ?_
            refine V_getR hC hWr 5 1 lfX5_19 kX5_bestAt_74 (Nat.le_of_ble_eq_true rfl) (Nat.le_of_ble_eq_true rfl) rfl ?_
            refine V_getI hC 1 5 lfX5_140 kX5_bestAt_77 (Nat.le_of_ble_eq_true rfl) (Nat.le_of_ble_eq_true rfl) rfl ?_
            refine V_cV_fI hC (cl_worth hWr a _ (hR.okW hI hn (inn_I (b01n.mp h4)))) mkX2_worthAt lmX5_154 kX5_bestAt_80 (Nat.le_of_ble_eq_true rfl) rfl rfl rfl (Nat.le_of_ble_eq_true rfl) ⟨(Nat.le_of_ble_eq_true rfl), (Nat.le_of_ble_eq_true rfl)⟩ ⟨rfl, rfl⟩ ⟨(Nat.le_of_ble_eq_true rfl), (Nat.le_of_ble_eq_true rfl)⟩ ?_
            refine V_iretiX hC rfl kX5_bestAt_83 ⟨(Nat.le_of_ble_eq_true rfl), (Nat.le_of_ble_eq_true rfl)⟩ ?_
            have hb01 : inn b 0 1 := by
              first
              | exact in01 (Or.inl h18)
              | exact in01 (Or.inr h23)
            first
            | exact ⟨_, by with_reducible rfl, (if_pos (b01n.mp h4)).trans (if_pos hb01), by rw [R_bestAt, if_neg h46, ← efb, if_pos hb1], rfl⟩
            | exact ⟨_, by with_reducible rfl, (if_pos (b01n.mp h4)).trans (if_pos hb01), by rw [R_bestAt, if_neg h46, ← efb, if_neg (nI_m1 (by have := hI.c4.1; omega))]; exact hR.worth hI hn a, rfl⟩
        · refine V_iload_n hC kX5_bestAt_49 rfl ?_
          refine V_iretiX hC rfl kX5_bestAt_50 ⟨(Nat.le_of_ble_eq_true rfl), (Nat.le_of_ble_eq_true rfl)⟩ ?_
          exact ⟨_, by with_reducible rfl, (if_pos (b01n.mp h4)).trans (if_pos (in01 (Or.inl h46))), (if_pos h46).symm, rfl⟩
      · refine V_thS hC hX (cls := "java/lang/IllegalArgumentException") (text := "what is 0 or 1") thc1 (by decide +kernel) rfl kX5_bestAt_26 kX5_bestAt_29 kX5_bestAt_30 kX5_bestAt_32 kX5_bestAt_35 ⟨(Nat.le_of_ble_eq_true rfl), (Nat.le_of_ble_eq_true rfl)⟩ ⟨(Nat.le_of_ble_eq_true rfl), (Nat.le_of_ble_eq_true rfl)⟩ ?_
        exact pY2 ((if_pos (b01n.mp h4)).trans (if_neg (fun z => (inn01 z).elim h18 h23)))
  · refine V_thS hC hX (cls := "java/lang/IndexOutOfBoundsException") (text := "no such place") thc3 (by decide +kernel) rfl kX5_bestAt_7 kX5_bestAt_10 kX5_bestAt_11 kX5_bestAt_13 kX5_bestAt_16 ⟨(Nat.le_of_ble_eq_true rfl), (Nat.le_of_ble_eq_true rfl)⟩ ⟨(Nat.le_of_ble_eq_true rfl), (Nat.le_of_ble_eq_true rfl)⟩ ?_
    exact pY1 (if_neg (b01e.mp h4))
def mtX5_setting : Mt := (yX5_setting, cX5_setting, 2, (some .int), 7, 221, 1, 6)
theorem kX5_setting_0 : Dk mtX5_setting 0 (.iload_n 1) 1 1 := ⟨by decide +kernel, rfl⟩
theorem kX5_setting_1 : Dk mtX5_setting 1 (.invokestatic 157) 3 4 := ⟨by decide +kernel, rfl⟩
theorem kX5_setting_4 : Dk mtX5_setting 4 (.ifCond .ne 13) 3 7 := ⟨by decide +kernel, rfl⟩
theorem kX5_setting_7 : Dk mtX5_setting 7 (.new 33) 3 10 := ⟨by decide +kernel, rfl⟩
theorem kX5_setting_10 : Dk mtX5_setting 10 (.dup) 1 11 := ⟨by decide +kernel, rfl⟩
theorem kX5_setting_11 : Dk mtX5_setting 11 (.ldc 160) 2 13 := ⟨by decide +kernel, rfl⟩
theorem kX5_setting_13 : Dk mtX5_setting 13 (.invokespecial 37) 3 16 := ⟨by decide +kernel, rfl⟩
theorem kX5_setting_16 : Dk mtX5_setting 16 (.athrow) 1 17 := ⟨by decide +kernel, rfl⟩
theorem kX5_setting_17 : Dk mtX5_setting 17 (.aload_n 0) 1 18 := ⟨by decide +kernel, rfl⟩
theorem kX5_setting_18 : Dk mtX5_setting 18 (.getfield 19) 3 21 := ⟨by decide +kernel, rfl⟩
theorem kX5_setting_21 : Dk mtX5_setting 21 (.iload_n 1) 1 22 := ⟨by decide +kernel, rfl⟩
theorem kX5_setting_22 : Dk mtX5_setting 22 (.invokevirtual 162) 3 25 := ⟨by decide +kernel, rfl⟩
theorem kX5_setting_25 : Dk mtX5_setting 25 (.ireturn) 1 26 := ⟨by decide +kernel, rfl⟩
theorem lmX5_157 : LkM RX5 157 mtX5_isSetting := Or.inl (by decide +kernel)
theorem mkX5_isSetting : MkS mtX5_isSetting 1 := ⟨List.mem_of_getElem? (i := 652) (by decide +kernel), by decide +kernel, by decide +kernel, ⟨by decide +kernel, by decide +kernel, by decide +kernel⟩⟩
theorem lmX5_162 : LkM RX5 162 mtX1_settingOf := Or.inl (by decide +kernel)
set_option maxHeartbeats 4000000 in
set_option maxRecDepth 100000 in
theorem cf_setting {l : Launch} {w : Wd} {sg : Sg} (hWr : Wr w) (hl0 : l.stackTraces = false) (a : Int32) {x : Nat} {g : Gs} (hR : Rel sg (x + 4) g) (hI : Inv g) : MX l mtX5_setting w [vR (some (5, 0, x)), vI a] sg (rX (K_setting a) (fun r g2 => r = g (tn a) ∧ g2 = sg)) (pY "java/lang/IllegalArgumentException" "java/lang/IllegalArgumentException" "java/lang/IllegalArgumentException" (K_setting a) sg) := by
  refine MX_of hl0 [some (vR (some (5, 0, x))), some (vI a)] rfl (Nat.le_of_ble_eq_true rfl) (by decide +kernel) ?_
  intro p_ e_ s_ m_ args_ below_ meth_ c_ hC hX hO
  refine V_iload_n hC kX5_setting_0 rfl ?_
  refine V_cS_fI hC (cl_isSetting hWr _) mkX5_isSetting lmX5_157 kX5_setting_1 rfl rfl (Nat.le_of_ble_eq_true rfl) ⟨(Nat.le_of_ble_eq_true rfl), (Nat.le_of_ble_eq_true rfl)⟩ ⟨rfl, rfl⟩ ⟨(Nat.le_of_ble_eq_true rfl), (Nat.le_of_ble_eq_true rfl)⟩ ?_
  refine V_if_ne hC 17 kX5_setting_4 (by decide) (fun h4 => ?_) (fun h4 => ?_)
  · obtain ⟨n, hn, rfl⟩ := vp_in_of (inn_vp (m := 4) (by decide) (b01n.mp h4)) (by decide)
    refine V_aload_n hC kX5_setting_17 rfl ?_
    refine V_getR hC hWr 5 1 lfX5_19 kX5_setting_18 (Nat.le_of_ble_eq_true rfl) (Nat.le_of_ble_eq_true rfl) rfl ?_
    refine V_iload_n hC kX5_setting_21 rfl ?_
    refine V_cV_fI hC (cl_setR hWr hR (j := n) hn rfl) mkX1_settingOf lmX5_162 kX5_setting_22 (Nat.le_of_ble_eq_true rfl) rfl rfl rfl (Nat.le_of_ble_eq_true rfl) ⟨(Nat.le_of_ble_eq_true rfl), (Nat.le_of_ble_eq_true rfl)⟩ ⟨rfl, rfl⟩ ⟨(Nat.le_of_ble_eq_true rfl), (Nat.le_of_ble_eq_true rfl)⟩ ?_
    refine V_iretiX hC rfl kX5_setting_25 ⟨(Nat.le_of_ble_eq_true rfl), (Nat.le_of_ble_eq_true rfl)⟩ ?_
    exact ⟨_, by with_reducible rfl, if_pos (b01n.mp h4), by rw [show tn (nI n) = n from nI_clamp (by omega)], rfl⟩
  · refine V_thS hC hX (cls := "java/lang/IllegalArgumentException") (text := "what is 0 to 3") thc1 (by decide +kernel) rfl kX5_setting_7 kX5_setting_10 kX5_setting_11 kX5_setting_13 kX5_setting_16 ⟨(Nat.le_of_ble_eq_true rfl), (Nat.le_of_ble_eq_true rfl)⟩ ⟨(Nat.le_of_ble_eq_true rfl), (Nat.le_of_ble_eq_true rfl)⟩ ?_
    exact pY1 (if_neg (b01e.mp h4))

