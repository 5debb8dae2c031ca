-- HOW cl_isPlace fI
-- HOW cl_isSpeed fI
-- HOW cl_isStrength fI
-- HOW cl_isTickCount fI
-- HOW cl_isSetting fI
-- HOW cl_isSlot fI
-- HOW cl_isSettingValue fI
-- HOW cl_shown fI
-- HOW cl_lbegin fV
-- HOW cl_lcopy fV
-- HOW cl_bcopy fV
-- HOW cl_lnum fI
-- HOW cl_bnum fI
-- HOW cl_bright fI
-- HOW cl_worth fI
-- HOW cl_bitCount fI
-- HOW cl_servedCount fI
-- HOW cl_takesHandedOn fI
-- HOW cl_takesOthers fI
-- HOW cl_bbegin fV
-- HOW cl_move fV
-- HOW cl_wishFor fV
-- HOW cl_lightR fR
-- HOW cl_lightN fR
-- HOW cl_boatR fR
-- HOW cl_boatN fR
-- HOW cl_setR fI
-- HOW cl_lightAt fR
-- HOW cl_lightAtNo fR
-- HOW cl_boatAt fR
-- HOW cl_boatAtNo fR
-- HOW cl_settingOf fI
-- HOW cl_servedBoats fI
-- HOW cl_talkingBoats fI
-- HOW cl_numberOf fI
-- HOW cl_brightest fI
-- HOW cl_isDark fI
-- HOW cl_freePlaces fI
-- HOW cl_lightFault fI
-- HOW cl_boatFault fI
-- HOW cl_steerFault fI
-- HOW cl_dimFault fI
-- HOW cl_leanFault fI
-- HOW cl_talkFault fI
-- HOW cl_putSpeed rI
-- HOW cl_putTalk rI
-- HOW cl_putLeaning rI
-- HOW cl_putStrength rI
-- HOW cl_putSetting rI
-- HOW cl_addLight rI
-- HOW cl_addBoat rI
-- HOW cl_tryLight rI
-- HOW cl_tryBoat rI
-- HOW cl_trySteer rI
-- HOW cl_tryTalk rI
-- HOW cl_tryLean rI
-- HOW cl_tryDim rI
-- HOW cl_serve rV
-- HOW cl_lose rV
-- HOW cl_bestWish fI
-- HOW cl_seekKeeper rV
-- HOW cl_ask rV
-- HOW cl_sail rV
-- HOW cl_pass rV
-- HOW cl_reset rV
-- HOW cl_copyFrom rV
-- HOW cl_stateAt fR
-- HOW cl_slotAt fR
-- HOW cl_hasStates fI
-- HOW cl_remember rV
-- HOW cl_takeBack rI
-- HOW cl_isKept fI
-- HOW cl_keep rV
-- HOW cl_bring rV
-- HOW cl_gained fI
-- HOW cl_dark fI
-- HOW cl_room fI
-- HOW cl_takeTurn rV
/-! the class: what its face calls -/
theorem rem_nI {r : Int32} (h : 0 ≤ r.toInt) {d : Nat} (h0 : 0 < d) (hd : d < 2 ^ 31) : ∃ k, k < d ∧ rm r (nI d) = nI k := by
  obtain ⟨h1, h2⟩ := cnt_in (x := r) (n := 2147483647) h (by have := fb_rng r; omega)
  refine ⟨tn r % d, Nat.mod_lt _ h0, ?_⟩
  rw [h2, show tn (nI (tn r)) = tn r from nI_clamp (by omega)]
  exact pk_rem (by omega) h0 hd
theorem div_pos {r : Int32} (h : 0 ≤ r.toInt) {d : Nat} (h0 : 0 < d) (hd : d < 2 ^ 31) : 0 ≤ (r / nI d).toInt := by
  obtain ⟨h1, h2⟩ := cnt_in (x := r) (n := 2147483647) h (by have := fb_rng r; omega)
  rw [h2, pk_div (by omega) h0 hd, nI_toInt (by have := Nat.div_le_self (tn r) d; omega)]
  exact Int.ofNat_zero_le _
def mtX5_gained : Mt := (yX5_gained, cX5_gained, 2, (some .int), 3, 65, 0, 0)
theorem kX5_gained_0 : Dk mtX5_gained 0 (.aload_n 0) 1 1 := ⟨by decide +kernel, rfl⟩
theorem kX5_gained_1 : Dk mtX5_gained 1 (.getfield 23) 3 4 := ⟨by decide +kernel, rfl⟩
theorem kX5_gained_4 : Dk mtX5_gained 4 (.iload_n 1) 1 5 := ⟨by decide +kernel, rfl⟩
theorem kX5_gained_5 : Dk mtX5_gained 5 (.invokevirtual 108) 3 8 := ⟨by decide +kernel, rfl⟩
theorem kX5_gained_8 : Dk mtX5_gained 8 (.aload_n 0) 1 9 := ⟨by decide +kernel, rfl⟩
theorem kX5_gained_9 : Dk mtX5_gained 9 (.getfield 19) 3 12 := ⟨by decide +kernel, rfl⟩
theorem kX5_gained_12 : Dk mtX5_gained 12 (.iload_n 1) 1 13 := ⟨by decide +kernel, rfl⟩
theorem kX5_gained_13 : Dk mtX5_gained 13 (.invokevirtual 108) 3 16 := ⟨by decide +kernel, rfl⟩
theorem kX5_gained_16 : Dk mtX5_gained 16 (.isub) 1 17 := ⟨by decide +kernel, rfl⟩
theorem kX5_gained_17 : Dk mtX5_gained 17 (.ireturn) 1 18 := ⟨by decide +kernel, rfl⟩
theorem lfX5_23 : LkF RX5 23 5 2 := Or.inl (by decide +kernel)
theorem lmX5_108 : LkM RX5 108 mtX1_numberOf := Or.inl (by decide +kernel)
theorem mkX1_numberOf : MkV mtX1_numberOf 1 := ⟨List.mem_of_getElem? (i := 310) (by decide +kernel), by decide +kernel, by decide +kernel, by decide +kernel, ⟨by decide +kernel, by decide +kernel, by decide +kernel⟩⟩
theorem lfX5_19 : LkF RX5 19 5 1 := Or.inl (by decide +kernel)
set_option maxHeartbeats 4000000 in
set_option maxRecDepth 100000 in
theorem cl_gained {l : Launch} {w : Wd} {sg : Sg} (hWr : Wr w) (a : Int32) (ha : inn a 0 9) {x : Nat} {g gt : Gs} (hR : Rel sg (x + 4) g) (hI : Inv g) (hRt : Rel sg (x + 22) gt) (hIt : Inv gt) : M l mtX5_gained w [vR (some (5, 0, x)), vI a] sg (fI (F_tells gt a - F_tells g a) sg) := by
  refine M_of [some (vR (some (5, 0, x))), some (vI a)] rfl (Nat.le_of_ble_eq_true rfl) (by decide +kernel) ?_
  intro p_ e_ s_ m_ args_ below_ meth_ c_ hC hO
  refine V_aload_n hC kX5_gained_0 rfl ?_
  refine V_getR hC hWr 5 2 lfX5_23 kX5_gained_1 (Nat.le_of_ble_eq_true rfl) (Nat.le_of_ble_eq_true rfl) rfl ?_
  refine V_iload_n hC kX5_gained_4 rfl ?_
  refine V_cV_fI hC (cl_numberOf hWr a ha hRt hIt) mkX1_numberOf lmX5_108 kX5_gained_5 (Nat.le_of_ble_eq_true rfl) rfl rfl rfl (Nat.le_of_ble_eq_true rfl) ⟨(Nat.le_of_ble_eq_true rfl), (Nat.le_of_ble_eq_true rfl)⟩ ⟨rfl, rfl⟩ ⟨(Nat.le_of_ble_eq_true rfl), (Nat.le_of_ble_eq_true rfl)⟩ ?_
  refine V_aload_n hC kX5_gained_8 rfl ?_
  refine V_getR hC hWr 5 1 lfX5_19 kX5_gained_9 (Nat.le_of_ble_eq_true rfl) (Nat.le_of_ble_eq_true rfl) rfl ?_
  refine V_iload_n hC kX5_gained_12 rfl ?_
  refine V_cV_fI hC (cl_numberOf hWr a ha hR hI) mkX1_numberOf lmX5_108 kX5_gained_13 (Nat.le_of_ble_eq_true rfl) rfl rfl rfl (Nat.le_of_ble_eq_true rfl) ⟨(Nat.le_of_ble_eq_true rfl), (Nat.le_of_ble_eq_true rfl)⟩ ⟨rfl, rfl⟩ ⟨(Nat.le_of_ble_eq_true rfl), (Nat.le_of_ble_eq_true rfl)⟩ ?_
  refine V_isub hC kX5_gained_16 ?_
  refine V_ireti hC rfl kX5_gained_17 ?_
  exact ⟨by with_reducible rfl, by with_reducible rfl⟩
theorem lmX5_246 : LkM RX5 246 mtX1_copyFrom := Or.inl (by decide +kernel)
theorem lmX5_214 : LkM RX5 214 mtX1_putSetting := Or.inl (by decide +kernel)
theorem lmX5_102 : LkM RX5 102 mtX1_pass := Or.inl (by decide +kernel)
theorem mkX1_pass : MkV mtX1_pass 1 := ⟨List.mem_of_getElem? (i := 529) (by decide +kernel), by decide +kernel, by decide +kernel, by decide +kernel, ⟨by decide +kernel, by decide +kernel, by decide +kernel⟩⟩
theorem lmX5_125 : LkM RX5 125 mtX1_boatAt := Or.inl (by decide +kernel)
def mtX5_dark : Mt := (yX5_dark, cX5_dark, 3, (some .int), 2, 49, 0, 0)
theorem kX5_dark_0 : Dk mtX5_dark 0 (.iconst 0) 1 1 := ⟨by decide +kernel, rfl⟩
theorem kX5_dark_1 : Dk mtX5_dark 1 (.istore_n 1) 1 2 := ⟨by decide +kernel, rfl⟩
theorem kX5_dark_2 : Dk mtX5_dark 2 (.iconst 0) 1 3 := ⟨by decide +kernel, rfl⟩
theorem kX5_dark_3 : Dk mtX5_dark 3 (.istore_n 2) 1 4 := ⟨by decide +kernel, rfl⟩
theorem kX5_dark_4 : Dk mtX5_dark 4 (.iload_n 2) 1 5 := ⟨by decide +kernel, rfl⟩
theorem kX5_dark_5 : Dk mtX5_dark 5 (.sipush 200) 3 8 := ⟨by decide +kernel, rfl⟩
theorem kX5_dark_8 : Dk mtX5_dark 8 (.if_icmp .ge 23) 3 11 := ⟨by decide +kernel, rfl⟩
theorem kX5_dark_11 : Dk mtX5_dark 11 (.aload_n 0) 1 12 := ⟨by decide +kernel, rfl⟩
theorem kX5_dark_12 : Dk mtX5_dark 12 (.getfield 19) 3 15 := ⟨by decide +kernel, rfl⟩
theorem kX5_dark_15 : Dk mtX5_dark 15 (.iload_n 2) 1 16 := ⟨by decide +kernel, rfl⟩
theorem kX5_dark_16 : Dk mtX5_dark 16 (.invokevirtual 262) 3 19 := ⟨by decide +kernel, rfl⟩
theorem kX5_dark_19 : Dk mtX5_dark 19 (.ifCond .eq 6) 3 22 := ⟨by decide +kernel, rfl⟩
theorem kX5_dark_22 : Dk mtX5_dark 22 (.iinc 1 1) 3 25 := ⟨by decide +kernel, rfl⟩
theorem kX5_dark_25 : Dk mtX5_dark 25 (.iinc 2 1) 3 28 := ⟨by decide +kernel, rfl⟩
theorem kX5_dark_28 : Dk mtX5_dark 28 (.goto (-24)) 3 31 := ⟨by decide +kernel, rfl⟩
theorem kX5_dark_31 : Dk mtX5_dark 31 (.iload_n 1) 1 32 := ⟨by decide +kernel, rfl⟩
theorem kX5_dark_32 : Dk mtX5_dark 32 (.ireturn) 1 33 := ⟨by decide +kernel, rfl⟩
theorem lmX5_262 : LkM RX5 262 mtX1_isDark := Or.inl (by decide +kernel)
theorem mkX1_isDark : MkV mtX1_isDark 1 := ⟨List.mem_of_getElem? (i := 420) (by decide +kernel), by decide +kernel, by decide +kernel, by decide +kernel, ⟨by decide +kernel, by decide +kernel, by decide +kernel⟩⟩
set_option maxHeartbeats 4000000 in
set_option maxRecDepth 100000 in
theorem cl_dark {l : Launch} {w : Wd} {sg : Sg} (hWr : Wr w) {x : Nat} {g : Gs} (hR : Rel sg (x + 4) g) (hI : Inv g) : M l mtX5_dark w [vR (some (5, 0, x))] sg (fI (F_dark g 200) sg) := by
  refine M_of [some (vR (some (5, 0, x))), none, none] rfl (Nat.le_of_ble_eq_true rfl) (by decide +kernel) ?_
  intro p_ e_ s_ m_ args_ below_ meth_ c_ hC hO
  refine V_iconst hC (0) kX5_dark_0 (by decide) ?_
  refine V_istore_n hC [some _, some _, none] kX5_dark_1 rfl (Nat.le_of_ble_eq_true rfl) ?_
  refine V_iconst hC (0) kX5_dark_2 (by decide) ?_
  refine V_istore_n hC [some _, some _, some _] kX5_dark_3 rfl (Nat.le_of_ble_eq_true rfl) ?_
  refine V_loop 200 (fun i => [some (vR (some (5, 0, x))), some (vI (F_dark g i)), some (vI (nI i))]) (fun i => sg) rfl rfl ?_ (fun i hi ihi => ?_)
  · refine V_iload_n hC kX5_dark_4 rfl ?_
    refine V_sipush hC (200) kX5_dark_5 (by decide) ?_
    refine V_icmp_ge hC 31 kX5_dark_8 (by decide) (fun h8 => ?_) (fun h8 => absurd h8 (not_not_intro (nI_lit rfl)))
    refine V_iload_n hC kX5_dark_31 rfl ?_
    refine V_ireti hC rfl kX5_dark_32 ?_
    exact ⟨by with_reducible rfl, by with_reducible rfl⟩
  · refine V_iload_n hC kX5_dark_4 rfl ?_
    refine V_sipush hC (200) kX5_dark_5 (by decide) ?_
    refine V_icmp_ge hC 31 kX5_dark_8 (by decide) (fun h8 => absurd h8 (by exact nI_ge (b := 200) hi (by decide))) (fun h8 => ?_)
    refine V_aload_n hC kX5_dark_11 rfl ?_
    refine V_getR hC hWr 5 1 lfX5_19 kX5_dark_12 (Nat.le_of_ble_eq_true rfl) (Nat.le_of_ble_eq_true rfl) rfl ?_
    refine V_iload_n hC kX5_dark_15 rfl ?_
    refine V_cV_fI hC (cl_isDark hWr _ ⟨by rw [nI_toInt (by omega)]; omega, by rw [nI_toInt (by omega)]; omega⟩ hR hI) mkX1_isDark lmX5_262 kX5_dark_16 (Nat.le_of_ble_eq_true rfl) rfl rfl rfl (Nat.le_of_ble_eq_true rfl) ⟨(Nat.le_of_ble_eq_true rfl), (Nat.le_of_ble_eq_true rfl)⟩ ⟨rfl, rfl⟩ ⟨(Nat.le_of_ble_eq_true rfl), (Nat.le_of_ble_eq_true rfl)⟩ ?_
    refine V_if_eq hC 25 kX5_dark_19 (by decide) (fun h19 => ?_) (fun h19 => ?_)
    · refine V_iinc hC (_ + 1) [some _, some _, some _] kX5_dark_25 rfl rfl rfl (Nat.le_of_ble_eq_true rfl) ?_
      refine V_goto hC 4 kX5_dark_28 (by decide) ?_
      refine V_eq ?_ rfl ihi
      rw [nI_succ, F_dark, if_neg (b01e.mp h19), Int32.add_zero]
    · refine V_iinc hC (_ + 1) [some _, some _, some _] kX5_dark_22 rfl rfl rfl (Nat.le_of_ble_eq_true rfl) ?_
      refine V_iinc hC (_ + 1) [some _, some _, some _] kX5_dark_25 rfl rfl rfl (Nat.le_of_ble_eq_true rfl) ?_
      refine V_goto hC 4 kX5_dark_28 (by decide) ?_
      refine V_eq ?_ rfl ihi
      rw [nI_succ, F_dark, if_pos (b01n.mp h19)]
def mtX5_room : Mt := (yX5_room, cX5_room, 1, (some .int), 3, 63, 0, 0)
theorem kX5_room_0 : Dk mtX5_room 0 (.aload_n 0) 1 1 := ⟨by decide +kernel, rfl⟩
theorem kX5_room_1 : Dk mtX5_room 1 (.getfield 19) 3 4 := ⟨by decide +kernel, rfl⟩
theorem kX5_room_4 : Dk mtX5_room 4 (.invokevirtual 267) 3 7 := ⟨by decide +kernel, rfl⟩
theorem kX5_room_7 : Dk mtX5_room 7 (.ireturn) 1 8 := ⟨by decide +kernel, rfl⟩
theorem lmX5_267 : LkM RX5 267 mtX1_freePlaces := Or.inl (by decide +kernel)
theorem mkX1_freePlaces : MkV mtX1_freePlaces 0 := ⟨List.mem_of_getElem? (i := 736) (by decide +kernel), by decide +kernel, by decide +kernel, by decide +kernel, ⟨by decide +kernel, by decide +kernel, by decide +kernel⟩⟩
set_option maxHeartbeats 4000000 in
set_option maxRecDepth 100000 in
theorem cl_room {l : Launch} {w : Wd} {sg : Sg} (hWr : Wr w) {x : Nat} {g : Gs} (hR : Rel sg (x + 4) g) (hI : Inv g) : M l mtX5_room w [vR (some (5, 0, x))] sg (fI (F_room g (tn (g 4))) sg) := by
  refine M_of [some (vR (some (5, 0, x)))] rfl (Nat.le_of_ble_eq_true rfl) (by decide +kernel) ?_
  intro p_ e_ s_ m_ args_ below_ meth_ c_ hC hO
  refine V_aload_n hC kX5_room_0 rfl ?_
  refine V_getR hC hWr 5 1 lfX5_19 kX5_room_1 (Nat.le_of_ble_eq_true rfl) (Nat.le_of_ble_eq_true rfl) rfl ?_
  refine V_cV_fI hC (cl_freePlaces hWr hR hI) mkX1_freePlaces lmX5_267 kX5_room_4 (Nat.le_of_ble_eq_true rfl) rfl rfl rfl (Nat.le_of_ble_eq_true rfl) ⟨(Nat.le_of_ble_eq_true rfl), (Nat.le_of_ble_eq_true rfl)⟩ ⟨rfl, rfl⟩ ⟨(Nat.le_of_ble_eq_true rfl), (Nat.le_of_ble_eq_true rfl)⟩ ?_
  refine V_ireti hC rfl kX5_room_7 ?_
  exact ⟨by with_reducible rfl, by with_reducible rfl⟩
def mtX5_takeTurn : Mt := (yX5_takeTurn, cX5_takeTurn, 3, none, 6, 132, 0, 0)
theorem kX5_takeTurn_0 : Dk mtX5_takeTurn 0 (.iload_n 1) 1 1 := ⟨by decide +kernel, rfl⟩
theorem kX5_takeTurn_1 : Dk mtX5_takeTurn 1 (.bipush 16) 2 3 := ⟨by decide +kernel, rfl⟩
theorem kX5_takeTurn_3 : Dk mtX5_takeTurn 3 (.idiv) 1 4 := ⟨by decide +kernel, rfl⟩
theorem kX5_takeTurn_4 : Dk mtX5_takeTurn 4 (.istore_n 2) 1 5 := ⟨by decide +kernel, rfl⟩
theorem kX5_takeTurn_5 : Dk mtX5_takeTurn 5 (.iload_n 1) 1 6 := ⟨by decide +kernel, rfl⟩
theorem kX5_takeTurn_6 : Dk mtX5_takeTurn 6 (.bipush 16) 2 8 := ⟨by decide +kernel, rfl⟩
theorem kX5_takeTurn_8 : Dk mtX5_takeTurn 8 (.irem) 1 9 := ⟨by decide +kernel, rfl⟩
theorem kX5_takeTurn_9 : Dk mtX5_takeTurn 9 (.tableswitch 234 0 7 #[47, 47, 98, 98, 125, 150, 150, 174]) 47 56 := ⟨by decide +kernel, rfl⟩
theorem kX5_takeTurn_56 : Dk mtX5_takeTurn 56 (.aload_n 0) 1 57 := ⟨by decide +kernel, rfl⟩
theorem kX5_takeTurn_57 : Dk mtX5_takeTurn 57 (.getfield 23) 3 60 := ⟨by decide +kernel, rfl⟩
theorem kX5_takeTurn_60 : Dk mtX5_takeTurn 60 (.iload_n 2) 1 61 := ⟨by decide +kernel, rfl⟩
theorem kX5_takeTurn_61 : Dk mtX5_takeTurn 61 (.sipush 200) 3 64 := ⟨by decide +kernel, rfl⟩
theorem kX5_takeTurn_64 : Dk mtX5_takeTurn 64 (.irem) 1 65 := ⟨by decide +kernel, rfl⟩
theorem kX5_takeTurn_65 : Dk mtX5_takeTurn 65 (.bipush 10) 2 67 := ⟨by decide +kernel, rfl⟩
theorem kX5_takeTurn_67 : Dk mtX5_takeTurn 67 (.iload_n 2) 1 68 := ⟨by decide +kernel, rfl⟩
theorem kX5_takeTurn_68 : Dk mtX5_takeTurn 68 (.sipush 256) 3 71 := ⟨by decide +kernel, rfl⟩
theorem kX5_takeTurn_71 : Dk mtX5_takeTurn 71 (.idiv) 1 72 := ⟨by decide +kernel, rfl⟩
theorem kX5_takeTurn_72 : Dk mtX5_takeTurn 72 (.bipush 90) 2 74 := ⟨by decide +kernel, rfl⟩
theorem kX5_takeTurn_74 : Dk mtX5_takeTurn 74 (.irem) 1 75 := ⟨by decide +kernel, rfl⟩
theorem kX5_takeTurn_75 : Dk mtX5_takeTurn 75 (.iadd) 1 76 := ⟨by decide +kernel, rfl⟩
theorem kX5_takeTurn_76 : Dk mtX5_takeTurn 76 (.iload_n 2) 1 77 := ⟨by decide +kernel, rfl⟩
theorem kX5_takeTurn_77 : Dk mtX5_takeTurn 77 (.iconst 3) 1 78 := ⟨by decide +kernel, rfl⟩
theorem kX5_takeTurn_78 : Dk mtX5_takeTurn 78 (.irem) 1 79 := ⟨by decide +kernel, rfl⟩
theorem kX5_takeTurn_79 : Dk mtX5_takeTurn 79 (.iconst 1) 1 80 := ⟨by decide +kernel, rfl⟩
theorem kX5_takeTurn_80 : Dk mtX5_takeTurn 80 (.iload_n 2) 1 81 := ⟨by decide +kernel, rfl⟩
theorem kX5_takeTurn_81 : Dk mtX5_takeTurn 81 (.bipush 8) 2 83 := ⟨by decide +kernel, rfl⟩
theorem kX5_takeTurn_83 : Dk mtX5_takeTurn 83 (.idiv) 1 84 := ⟨by decide +kernel, rfl⟩
theorem kX5_takeTurn_84 : Dk mtX5_takeTurn 84 (.bipush 20) 2 86 := ⟨by decide +kernel, rfl⟩
theorem kX5_takeTurn_86 : Dk mtX5_takeTurn 86 (.irem) 1 87 := ⟨by decide +kernel, rfl⟩
theorem kX5_takeTurn_87 : Dk mtX5_takeTurn 87 (.iadd) 1 88 := ⟨by decide +kernel, rfl⟩
theorem kX5_takeTurn_88 : Dk mtX5_takeTurn 88 (.iconst 1) 1 89 := ⟨by decide +kernel, rfl⟩
theorem kX5_takeTurn_89 : Dk mtX5_takeTurn 89 (.iload_n 2) 1 90 := ⟨by decide +kernel, rfl⟩
theorem kX5_takeTurn_90 : Dk mtX5_takeTurn 90 (.bipush 6) 2 92 := ⟨by decide +kernel, rfl⟩
theorem kX5_takeTurn_92 : Dk mtX5_takeTurn 92 (.irem) 1 93 := ⟨by decide +kernel, rfl⟩
theorem kX5_takeTurn_93 : Dk mtX5_takeTurn 93 (.iadd) 1 94 := ⟨by decide +kernel, rfl⟩
theorem kX5_takeTurn_94 : Dk mtX5_takeTurn 94 (.iload_n 2) 1 95 := ⟨by decide +kernel, rfl⟩
theorem kX5_takeTurn_95 : Dk mtX5_takeTurn 95 (.bipush 32) 2 97 := ⟨by decide +kernel, rfl⟩
theorem kX5_takeTurn_97 : Dk mtX5_takeTurn 97 (.idiv) 1 98 := ⟨by decide +kernel, rfl⟩
theorem kX5_takeTurn_98 : Dk mtX5_takeTurn 98 (.iconst 2) 1 99 := ⟨by decide +kernel, rfl⟩
theorem kX5_takeTurn_99 : Dk mtX5_takeTurn 99 (.irem) 1 100 := ⟨by decide +kernel, rfl⟩
theorem kX5_takeTurn_100 : Dk mtX5_takeTurn 100 (.invokevirtual 85) 3 103 := ⟨by decide +kernel, rfl⟩
theorem kX5_takeTurn_103 : Dk mtX5_takeTurn 103 (.pop) 1 104 := ⟨by decide +kernel, rfl⟩
theorem kX5_takeTurn_104 : Dk mtX5_takeTurn 104 (.goto 152) 3 107 := ⟨by decide +kernel, rfl⟩
theorem kX5_takeTurn_107 : Dk mtX5_takeTurn 107 (.aload_n 0) 1 108 := ⟨by decide +kernel, rfl⟩
theorem kX5_takeTurn_108 : Dk mtX5_takeTurn 108 (.getfield 23) 3 111 := ⟨by decide +kernel, rfl⟩
theorem kX5_takeTurn_111 : Dk mtX5_takeTurn 111 (.iload_n 2) 1 112 := ⟨by decide +kernel, rfl⟩
theorem kX5_takeTurn_112 : Dk mtX5_takeTurn 112 (.sipush 200) 3 115 := ⟨by decide +kernel, rfl⟩
theorem kX5_takeTurn_115 : Dk mtX5_takeTurn 115 (.irem) 1 116 := ⟨by decide +kernel, rfl⟩
theorem kX5_takeTurn_116 : Dk mtX5_takeTurn 116 (.iload_n 2) 1 117 := ⟨by decide +kernel, rfl⟩
theorem kX5_takeTurn_117 : Dk mtX5_takeTurn 117 (.sipush 256) 3 120 := ⟨by decide +kernel, rfl⟩
theorem kX5_takeTurn_120 : Dk mtX5_takeTurn 120 (.idiv) 1 121 := ⟨by decide +kernel, rfl⟩
theorem kX5_takeTurn_121 : Dk mtX5_takeTurn 121 (.bipush 13) 2 123 := ⟨by decide +kernel, rfl⟩
theorem kX5_takeTurn_123 : Dk mtX5_takeTurn 123 (.irem) 1 124 := ⟨by decide +kernel, rfl⟩
theorem kX5_takeTurn_124 : Dk mtX5_takeTurn 124 (.bipush 6) 2 126 := ⟨by decide +kernel, rfl⟩
theorem kX5_takeTurn_126 : Dk mtX5_takeTurn 126 (.isub) 1 127 := ⟨by decide +kernel, rfl⟩
theorem kX5_takeTurn_127 : Dk mtX5_takeTurn 127 (.invokevirtual 89) 3 130 := ⟨by decide +kernel, rfl⟩
theorem kX5_takeTurn_130 : Dk mtX5_takeTurn 130 (.pop) 1 131 := ⟨by decide +kernel, rfl⟩
theorem kX5_takeTurn_131 : Dk mtX5_takeTurn 131 (.goto 125) 3 134 := ⟨by decide +kernel, rfl⟩
theorem kX5_takeTurn_134 : Dk mtX5_takeTurn 134 (.aload_n 0) 1 135 := ⟨by decide +kernel, rfl⟩
theorem kX5_takeTurn_135 : Dk mtX5_takeTurn 135 (.getfield 23) 3 138 := ⟨by decide +kernel, rfl⟩
theorem kX5_takeTurn_138 : Dk mtX5_takeTurn 138 (.iload_n 2) 1 139 := ⟨by decide +kernel, rfl⟩
theorem kX5_takeTurn_139 : Dk mtX5_takeTurn 139 (.bipush 8) 2 141 := ⟨by decide +kernel, rfl⟩
theorem kX5_takeTurn_141 : Dk mtX5_takeTurn 141 (.irem) 1 142 := ⟨by decide +kernel, rfl⟩
theorem kX5_takeTurn_142 : Dk mtX5_takeTurn 142 (.iload_n 2) 1 143 := ⟨by decide +kernel, rfl⟩
theorem kX5_takeTurn_143 : Dk mtX5_takeTurn 143 (.bipush 8) 2 145 := ⟨by decide +kernel, rfl⟩
theorem kX5_takeTurn_145 : Dk mtX5_takeTurn 145 (.idiv) 1 146 := ⟨by decide +kernel, rfl⟩
theorem kX5_takeTurn_146 : Dk mtX5_takeTurn 146 (.bipush 13) 2 148 := ⟨by decide +kernel, rfl⟩
theorem kX5_takeTurn_148 : Dk mtX5_takeTurn 148 (.irem) 1 149 := ⟨by decide +kernel, rfl⟩
theorem kX5_takeTurn_149 : Dk mtX5_takeTurn 149 (.bipush 6) 2 151 := ⟨by decide +kernel, rfl⟩
theorem kX5_takeTurn_151 : Dk mtX5_takeTurn 151 (.isub) 1 152 := ⟨by decide +kernel, rfl⟩
theorem kX5_takeTurn_152 : Dk mtX5_takeTurn 152 (.invokevirtual 96) 3 155 := ⟨by decide +kernel, rfl⟩
theorem kX5_takeTurn_155 : Dk mtX5_takeTurn 155 (.pop) 1 156 := ⟨by decide +kernel, rfl⟩
theorem kX5_takeTurn_156 : Dk mtX5_takeTurn 156 (.goto 100) 3 159 := ⟨by decide +kernel, rfl⟩
theorem kX5_takeTurn_159 : Dk mtX5_takeTurn 159 (.aload_n 0) 1 160 := ⟨by decide +kernel, rfl⟩
theorem kX5_takeTurn_160 : Dk mtX5_takeTurn 160 (.getfield 23) 3 163 := ⟨by decide +kernel, rfl⟩
theorem kX5_takeTurn_163 : Dk mtX5_takeTurn 163 (.iload_n 2) 1 164 := ⟨by decide +kernel, rfl⟩
theorem kX5_takeTurn_164 : Dk mtX5_takeTurn 164 (.bipush 8) 2 166 := ⟨by decide +kernel, rfl⟩
theorem kX5_takeTurn_166 : Dk mtX5_takeTurn 166 (.irem) 1 167 := ⟨by decide +kernel, rfl⟩
theorem kX5_takeTurn_167 : Dk mtX5_takeTurn 167 (.iconst 1) 1 168 := ⟨by decide +kernel, rfl⟩
theorem kX5_takeTurn_168 : Dk mtX5_takeTurn 168 (.iload_n 2) 1 169 := ⟨by decide +kernel, rfl⟩
theorem kX5_takeTurn_169 : Dk mtX5_takeTurn 169 (.bipush 8) 2 171 := ⟨by decide +kernel, rfl⟩
theorem kX5_takeTurn_171 : Dk mtX5_takeTurn 171 (.idiv) 1 172 := ⟨by decide +kernel, rfl⟩
theorem kX5_takeTurn_172 : Dk mtX5_takeTurn 172 (.bipush 60) 2 174 := ⟨by decide +kernel, rfl⟩
theorem kX5_takeTurn_174 : Dk mtX5_takeTurn 174 (.irem) 1 175 := ⟨by decide +kernel, rfl⟩
theorem kX5_takeTurn_175 : Dk mtX5_takeTurn 175 (.iadd) 1 176 := ⟨by decide +kernel, rfl⟩
theorem kX5_takeTurn_176 : Dk mtX5_takeTurn 176 (.invokevirtual 93) 3 179 := ⟨by decide +kernel, rfl⟩
theorem kX5_takeTurn_179 : Dk mtX5_takeTurn 179 (.pop) 1 180 := ⟨by decide +kernel, rfl⟩
theorem kX5_takeTurn_180 : Dk mtX5_takeTurn 180 (.goto 76) 3 183 := ⟨by decide +kernel, rfl⟩
theorem kX5_takeTurn_183 : Dk mtX5_takeTurn 183 (.iload_n 2) 1 184 := ⟨by decide +kernel, rfl⟩
theorem kX5_takeTurn_184 : Dk mtX5_takeTurn 184 (.sipush 512) 3 187 := ⟨by decide +kernel, rfl⟩
theorem kX5_takeTurn_187 : Dk mtX5_takeTurn 187 (.idiv) 1 188 := ⟨by decide +kernel, rfl⟩
theorem kX5_takeTurn_188 : Dk mtX5_takeTurn 188 (.iconst 2) 1 189 := ⟨by decide +kernel, rfl⟩
theorem kX5_takeTurn_189 : Dk mtX5_takeTurn 189 (.irem) 1 190 := ⟨by decide +kernel, rfl⟩
theorem kX5_takeTurn_190 : Dk mtX5_takeTurn 190 (.ifCond .ne 28) 3 193 := ⟨by decide +kernel, rfl⟩
theorem kX5_takeTurn_193 : Dk mtX5_takeTurn 193 (.aload_n 0) 1 194 := ⟨by decide +kernel, rfl⟩
theorem kX5_takeTurn_194 : Dk mtX5_takeTurn 194 (.getfield 23) 3 197 := ⟨by decide +kernel, rfl⟩
theorem kX5_takeTurn_197 : Dk mtX5_takeTurn 197 (.iload_n 2) 1 198 := ⟨by decide +kernel, rfl⟩
theorem kX5_takeTurn_198 : Dk mtX5_takeTurn 198 (.bipush 6) 2 200 := ⟨by decide +kernel, rfl⟩
theorem kX5_takeTurn_200 : Dk mtX5_takeTurn 200 (.irem) 1 201 := ⟨by decide +kernel, rfl⟩
theorem kX5_takeTurn_201 : Dk mtX5_takeTurn 201 (.iload_n 2) 1 202 := ⟨by decide +kernel, rfl⟩
theorem kX5_takeTurn_202 : Dk mtX5_takeTurn 202 (.bipush 8) 2 204 := ⟨by decide +kernel, rfl⟩
theorem kX5_takeTurn_204 : Dk mtX5_takeTurn 204 (.idiv) 1 205 := ⟨by decide +kernel, rfl⟩
theorem kX5_takeTurn_205 : Dk mtX5_takeTurn 205 (.bipush 61) 2 207 := ⟨by decide +kernel, rfl⟩
theorem kX5_takeTurn_207 : Dk mtX5_takeTurn 207 (.irem) 1 208 := ⟨by decide +kernel, rfl⟩
theorem kX5_takeTurn_208 : Dk mtX5_takeTurn 208 (.bipush 30) 2 210 := ⟨by decide +kernel, rfl⟩
theorem kX5_takeTurn_210 : Dk mtX5_takeTurn 210 (.isub) 1 211 := ⟨by decide +kernel, rfl⟩
theorem kX5_takeTurn_211 : Dk mtX5_takeTurn 211 (.invokevirtual 284) 3 214 := ⟨by decide +kernel, rfl⟩
theorem kX5_takeTurn_214 : Dk mtX5_takeTurn 214 (.pop) 1 215 := ⟨by decide +kernel, rfl⟩
theorem kX5_takeTurn_215 : Dk mtX5_takeTurn 215 (.goto 41) 3 218 := ⟨by decide +kernel, rfl⟩
theorem kX5_takeTurn_218 : Dk mtX5_takeTurn 218 (.aload_n 0) 1 219 := ⟨by decide +kernel, rfl⟩
theorem kX5_takeTurn_219 : Dk mtX5_takeTurn 219 (.getfield 23) 3 222 := ⟨by decide +kernel, rfl⟩
theorem kX5_takeTurn_222 : Dk mtX5_takeTurn 222 (.iload_n 2) 1 223 := ⟨by decide +kernel, rfl⟩
theorem kX5_takeTurn_223 : Dk mtX5_takeTurn 223 (.bipush 6) 2 225 := ⟨by decide +kernel, rfl⟩
theorem kX5_takeTurn_225 : Dk mtX5_takeTurn 225 (.irem) 1 226 := ⟨by decide +kernel, rfl⟩
theorem kX5_takeTurn_226 : Dk mtX5_takeTurn 226 (.bipush 10) 2 228 := ⟨by decide +kernel, rfl⟩
theorem kX5_takeTurn_228 : Dk mtX5_takeTurn 228 (.iload_n 2) 1 229 := ⟨by decide +kernel, rfl⟩
theorem kX5_takeTurn_229 : Dk mtX5_takeTurn 229 (.bipush 8) 2 231 := ⟨by decide +kernel, rfl⟩
theorem kX5_takeTurn_231 : Dk mtX5_takeTurn 231 (.idiv) 1 232 := ⟨by decide +kernel, rfl⟩
theorem kX5_takeTurn_232 : Dk mtX5_takeTurn 232 (.bipush 90) 2 234 := ⟨by decide +kernel, rfl⟩
theorem kX5_takeTurn_234 : Dk mtX5_takeTurn 234 (.irem) 1 235 := ⟨by decide +kernel, rfl⟩
theorem kX5_takeTurn_235 : Dk mtX5_takeTurn 235 (.iadd) 1 236 := ⟨by decide +kernel, rfl⟩
theorem kX5_takeTurn_236 : Dk mtX5_takeTurn 236 (.invokevirtual 308) 3 239 := ⟨by decide +kernel, rfl⟩
theorem kX5_takeTurn_239 : Dk mtX5_takeTurn 239 (.pop) 1 240 := ⟨by decide +kernel, rfl⟩
theorem kX5_takeTurn_240 : Dk mtX5_takeTurn 240 (.goto 16) 3 243 := ⟨by decide +kernel, rfl⟩
theorem kX5_takeTurn_243 : Dk mtX5_takeTurn 243 (.aload_n 0) 1 244 := ⟨by decide +kernel, rfl⟩
theorem kX5_takeTurn_244 : Dk mtX5_takeTurn 244 (.getfield 23) 3 247 := ⟨by decide +kernel, rfl⟩
theorem kX5_takeTurn_247 : Dk mtX5_takeTurn 247 (.iconst 1) 1 248 := ⟨by decide +kernel, rfl⟩
theorem kX5_takeTurn_248 : Dk mtX5_takeTurn 248 (.iload_n 2) 1 249 := ⟨by decide +kernel, rfl⟩
theorem kX5_takeTurn_249 : Dk mtX5_takeTurn 249 (.bipush 12) 2 251 := ⟨by decide +kernel, rfl⟩
theorem kX5_takeTurn_251 : Dk mtX5_takeTurn 251 (.irem) 1 252 := ⟨by decide +kernel, rfl⟩
theorem kX5_takeTurn_252 : Dk mtX5_takeTurn 252 (.iadd) 1 253 := ⟨by decide +kernel, rfl⟩
theorem kX5_takeTurn_253 : Dk mtX5_takeTurn 253 (.invokevirtual 102) 3 256 := ⟨by decide +kernel, rfl⟩
theorem kX5_takeTurn_256 : Dk mtX5_takeTurn 256 (.return_) 1 257 := ⟨by decide +kernel, rfl⟩
theorem lmX5_85 : LkM RX5 85 mtX1_tryLight := Or.inl (by decide +kernel)
theorem mkX1_tryLight : MkV mtX1_tryLight 6 := ⟨List.mem_of_getElem? (i := 442) (by decide +kernel), by decide +kernel, by decide +kernel, by decide +kernel, ⟨by decide +kernel, by decide +kernel, by decide +kernel⟩⟩
theorem lmX5_89 : LkM RX5 89 mtX1_tryBoat := Or.inl (by decide +kernel)
theorem mkX1_tryBoat : MkV mtX1_tryBoat 2 := ⟨List.mem_of_getElem? (i := 462) (by decide +kernel), by decide +kernel, by decide +kernel, by decide +kernel, ⟨by decide +kernel, by decide +kernel, by decide +kernel⟩⟩
theorem lmX5_96 : LkM RX5 96 mtX1_trySteer := Or.inl (by decide +kernel)
theorem mkX1_trySteer : MkV mtX1_trySteer 2 := ⟨List.mem_of_getElem? (i := 481) (by decide +kernel), by decide +kernel, by decide +kernel, by decide +kernel, ⟨by decide +kernel, by decide +kernel, by decide +kernel⟩⟩
theorem lmX5_93 : LkM RX5 93 mtX1_tryTalk := Or.inl (by decide +kernel)
theorem mkX1_tryTalk : MkV mtX1_tryTalk 2 := ⟨List.mem_of_getElem? (i := 493) (by decide +kernel), by decide +kernel, by decide +kernel, by decide +kernel, ⟨by decide +kernel, by decide +kernel, by decide +kernel⟩⟩
theorem lmX5_308 : LkM RX5 308 mtX1_tryDim := Or.inl (by decide +kernel)
theorem mkX1_tryDim : MkV mtX1_tryDim 2 := ⟨List.mem_of_getElem? (i := 517) (by decide +kernel), by decide +kernel, by decide +kernel, by decide +kernel, ⟨by decide +kernel, by decide +kernel, by decide +kernel⟩⟩
theorem lmX5_284 : LkM RX5 284 mtX1_tryLean := Or.inl (by decide +kernel)
theorem mkX1_tryLean : MkV mtX1_tryLean 2 := ⟨List.mem_of_getElem? (i := 505) (by decide +kernel), by decide +kernel, by decide +kernel, by decide +kernel, ⟨by decide +kernel, by decide +kernel, by decide +kernel⟩⟩
set_option maxHeartbeats 4000000 in
set_option maxRecDepth 100000 in
theorem cl_takeTurn {l : Launch} {w : Wd} {sg : Sg} (hWr : Wr w) (r : Int32) (hr : 0 ≤ r.toInt) {x : Nat} {g : Gs} (hR : Rel sg (x + 22) g) (hI : Inv g) : M l mtX5_takeTurn w [vR (some (5, 0, x)), vI r] sg (rV (fun sg2 => Rel sg2 (x + 22) (F_turn g r) ∧ Fr (x + 22) sg sg2)) := by
  refine M_of [some (vR (some (5, 0, x))), some (vI r), none] rfl (Nat.le_of_ble_eq_true rfl) (by decide +kernel) ?_
  intro p_ e_ s_ m_ args_ below_ meth_ c_ hC hO
  refine V_iload_n hC kX5_takeTurn_0 rfl ?_
  refine V_bipush hC (16) kX5_takeTurn_1 (by decide) ?_
  refine V_idiv hC kX5_takeTurn_3 (by decide) ?_
  refine V_nameI (fun q e_q => ?_)
  refine V_istore_n hC [some _, some _, some _] kX5_takeTurn_4 rfl (Nat.le_of_ble_eq_true rfl) ?_
  refine V_iload_n hC kX5_takeTurn_5 rfl ?_
  refine V_bipush hC (16) kX5_takeTurn_6 (by decide) ?_
  refine V_irem hC kX5_takeTurn_8 (by decide) ?_
  obtain ⟨N, hN, ex⟩ := rm16 hr
  have et : tn (rm r 16) = N := by rw [ex]; exact nI_clamp (by omega)
  subst e_q
  rcases (show N = 0 ∨ N = 1 ∨ N = 2 ∨ N = 3 ∨ N = 4 ∨ N = 5 ∨ N = 6 ∨ N = 7 ∨ 8 ≤ N by omega) with e | e | e | e | e | e | e | e | e
  · subst e
    refine V_tabIn hC (47) 56 kX5_takeTurn_9 (by rw [show r - r / 16 * 16 = nI 0 from ex]; decide) (by rw [show r - r / 16 * 16 = nI 0 from ex]; decide) (by rw [show r - r / 16 * 16 = nI 0 from ex]; rfl) (by decide) ?_
    refine V_aload_n hC kX5_takeTurn_56 rfl ?_
    refine V_getR hC hWr 5 2 lfX5_23 kX5_takeTurn_57 (Nat.le_of_ble_eq_true rfl) (Nat.le_of_ble_eq_true rfl) rfl ?_
    refine V_iload_n hC kX5_takeTurn_60 rfl ?_
    refine V_sipush hC (200) kX5_takeTurn_61 (by decide) ?_
    refine V_irem hC kX5_takeTurn_64 (by decide) ?_
    refine V_bipush hC (10) kX5_takeTurn_65 (by decide) ?_
    refine V_iload_n hC kX5_takeTurn_67 rfl ?_
    refine V_sipush hC (256) kX5_takeTurn_68 (by decide) ?_
    refine V_idiv hC kX5_takeTurn_71 (by decide) ?_
    refine V_bipush hC (90) kX5_takeTurn_72 (by decide) ?_
    refine V_irem hC kX5_takeTurn_74 (by decide) ?_
    refine V_iadd hC kX5_takeTurn_75 ?_
    refine V_iload_n hC kX5_takeTurn_76 rfl ?_
    refine V_iconst hC (3) kX5_takeTurn_77 (by decide) ?_
    refine V_irem hC kX5_takeTurn_78 (by decide) ?_
    refine V_iconst hC (1) kX5_takeTurn_79 (by decide) ?_
    refine V_iload_n hC kX5_takeTurn_80 rfl ?_
    refine V_bipush hC (8) kX5_takeTurn_81 (by decide) ?_
    refine V_idiv hC kX5_takeTurn_83 (by decide) ?_
    refine V_bipush hC (20) kX5_takeTurn_84 (by decide) ?_
    refine V_irem hC kX5_takeTurn_86 (by decide) ?_
    refine V_iadd hC kX5_takeTurn_87 ?_
    refine V_iconst hC (1) kX5_takeTurn_88 (by decide) ?_
    refine V_iload_n hC kX5_takeTurn_89 rfl ?_
    refine V_bipush hC (6) kX5_takeTurn_90 (by decide) ?_
    refine V_irem hC kX5_takeTurn_92 (by decide) ?_
    refine V_iadd hC kX5_takeTurn_93 ?_
    refine V_iload_n hC kX5_takeTurn_94 rfl ?_
    refine V_bipush hC (32) kX5_takeTurn_95 (by decide) ?_
    refine V_idiv hC kX5_takeTurn_97 (by decide) ?_
    refine V_iconst hC (2) kX5_takeTurn_98 (by decide) ?_
    refine V_irem hC kX5_takeTurn_99 (by decide) ?_
    refine V_cV_rI hC (cl_tryLight hWr _ _ _ _ _ _ hR hI) mkX1_tryLight lmX5_85 kX5_takeTurn_100 (Nat.le_of_ble_eq_true rfl) rfl rfl rfl (Nat.le_of_ble_eq_true rfl) ⟨(Nat.le_of_ble_eq_true rfl), (Nat.le_of_ble_eq_true rfl)⟩ ⟨rfl, rfl⟩ ⟨(Nat.le_of_ble_eq_true rfl), (Nat.le_of_ble_eq_true rfl)⟩ (fun x100 g100 h100 => ?_)
    refine V_pop hC kX5_takeTurn_103 rfl ?_
    refine V_goto hC 256 kX5_takeTurn_104 (by decide) ?_
    refine V_vret hC rfl kX5_takeTurn_256 ?_
    refine ⟨by with_reducible rfl, ?_⟩
    rw [F_turn, et]
    rw [show F_turnC g (r / 16) 0 = _ from (if_pos (by decide : 0 < 2))]
    exact ⟨h100.2.1, h100.2.2⟩
  · subst e
    refine V_tabIn hC (47) 56 kX5_takeTurn_9 (by rw [show r - r / 16 * 16 = nI 1 from ex]; decide) (by rw [show r - r / 16 * 16 = nI 1 from ex]; decide) (by rw [show r - r / 16 * 16 = nI 1 from ex]; rfl) (by decide) ?_
    refine V_aload_n hC kX5_takeTurn_56 rfl ?_
    refine V_getR hC hWr 5 2 lfX5_23 kX5_takeTurn_57 (Nat.le_of_ble_eq_true rfl) (Nat.le_of_ble_eq_true rfl) rfl ?_
    refine V_iload_n hC kX5_takeTurn_60 rfl ?_
    refine V_sipush hC (200) kX5_takeTurn_61 (by decide) ?_
    refine V_irem hC kX5_takeTurn_64 (by decide) ?_
    refine V_bipush hC (10) kX5_takeTurn_65 (by decide) ?_
    refine V_iload_n hC kX5_takeTurn_67 rfl ?_
    refine V_sipush hC (256) kX5_takeTurn_68 (by decide) ?_
    refine V_idiv hC kX5_takeTurn_71 (by decide) ?_
    refine V_bipush hC (90) kX5_takeTurn_72 (by decide) ?_
    refine V_irem hC kX5_takeTurn_74 (by decide) ?_
    refine V_iadd hC kX5_takeTurn_75 ?_
    refine V_iload_n hC kX5_takeTurn_76 rfl ?_
    refine V_iconst hC (3) kX5_takeTurn_77 (by decide) ?_
    refine V_irem hC kX5_takeTurn_78 (by decide) ?_
    refine V_iconst hC (1) kX5_takeTurn_79 (by decide) ?_
    refine V_iload_n hC kX5_takeTurn_80 rfl ?_
    refine V_bipush hC (8) kX5_takeTurn_81 (by decide) ?_
    refine V_idiv hC kX5_takeTurn_83 (by decide) ?_
    refine V_bipush hC (20) kX5_takeTurn_84 (by decide) ?_
    refine V_irem hC kX5_takeTurn_86 (by decide) ?_
    refine V_iadd hC kX5_takeTurn_87 ?_
    refine V_iconst hC (1) kX5_takeTurn_88 (by decide) ?_
    refine V_iload_n hC kX5_takeTurn_89 rfl ?_
    refine V_bipush hC (6) kX5_takeTurn_90 (by decide) ?_
    refine V_irem hC kX5_takeTurn_92 (by decide) ?_
    refine V_iadd hC kX5_takeTurn_93 ?_
    refine V_iload_n hC kX5_takeTurn_94 rfl ?_
    refine V_bipush hC (32) kX5_takeTurn_95 (by decide) ?_
    refine V_idiv hC kX5_takeTurn_97 (by decide) ?_
    refine V_iconst hC (2) kX5_takeTurn_98 (by decide) ?_
    refine V_irem hC kX5_takeTurn_99 (by decide) ?_
    refine V_cV_rI hC (cl_tryLight hWr _ _ _ _ _ _ hR hI) mkX1_tryLight lmX5_85 kX5_takeTurn_100 (Nat.le_of_ble_eq_true rfl) rfl rfl rfl (Nat.le_of_ble_eq_true rfl) ⟨(Nat.le_of_ble_eq_true rfl), (Nat.le_of_ble_eq_true rfl)⟩ ⟨rfl, rfl⟩ ⟨(Nat.le_of_ble_eq_true rfl), (Nat.le_of_ble_eq_true rfl)⟩ (fun x100 g100 h100 => ?_)
    refine V_pop hC kX5_takeTurn_103 rfl ?_
    refine V_goto hC 256 kX5_takeTurn_104 (by decide) ?_
    refine V_vret hC rfl kX5_takeTurn_256 ?_
    refine ⟨by with_reducible rfl, ?_⟩
    rw [F_turn, et]
    rw [show F_turnC g (r / 16) 1 = _ from (if_pos (by decide : 1 < 2))]
    exact ⟨h100.2.1, h100.2.2⟩
  · subst e
    refine V_tabIn hC (98) 107 kX5_takeTurn_9 (by rw [show r - r / 16 * 16 = nI 2 from ex]; decide) (by rw [show r - r / 16 * 16 = nI 2 from ex]; decide) (by rw [show r - r / 16 * 16 = nI 2 from ex]; rfl) (by decide) ?_
    refine V_aload_n hC kX5_takeTurn_107 rfl ?_
    refine V_getR hC hWr 5 2 lfX5_23 kX5_takeTurn_108 (Nat.le_of_ble_eq_true rfl) (Nat.le_of_ble_eq_true rfl) rfl ?_
    refine V_iload_n hC kX5_takeTurn_111 rfl ?_
    refine V_sipush hC (200) kX5_takeTurn_112 (by decide) ?_
    refine V_irem hC kX5_takeTurn_115 (by decide) ?_
    refine V_iload_n hC kX5_takeTurn_116 rfl ?_
    refine V_sipush hC (256) kX5_takeTurn_117 (by decide) ?_
    refine V_idiv hC kX5_takeTurn_120 (by decide) ?_
    refine V_bipush hC (13) kX5_takeTurn_121 (by decide) ?_
    refine V_irem hC kX5_takeTurn_123 (by decide) ?_
    refine V_bipush hC (6) kX5_takeTurn_124 (by decide) ?_
    refine V_isub hC kX5_takeTurn_126 ?_
    refine V_cV_rI hC (cl_tryBoat hWr _ _ hR hI) mkX1_tryBoat lmX5_89 kX5_takeTurn_127 (Nat.le_of_ble_eq_true rfl) rfl rfl rfl (Nat.le_of_ble_eq_true rfl) ⟨(Nat.le_of_ble_eq_true rfl), (Nat.le_of_ble_eq_true rfl)⟩ ⟨rfl, rfl⟩ ⟨(Nat.le_of_ble_eq_true rfl), (Nat.le_of_ble_eq_true rfl)⟩ (fun x127 g127 h127 => ?_)
    refine V_pop hC kX5_takeTurn_130 rfl ?_
    refine V_goto hC 256 kX5_takeTurn_131 (by decide) ?_
    refine V_vret hC rfl kX5_takeTurn_256 ?_
    refine ⟨by with_reducible rfl, ?_⟩
    rw [F_turn, et]
    rw [show F_turnC g (r / 16) 2 = _ from (Eq.trans (if_neg (by decide : ¬ 2 < 2)) (if_pos (by decide : 2 < 4)))]
    exact ⟨h127.2.1, h127.2.2⟩
  · subst e
    refine V_tabIn hC (98) 107 kX5_takeTurn_9 (by rw [show r - r / 16 * 16 = nI 3 from ex]; decide) (by rw [show r - r / 16 * 16 = nI 3 from ex]; decide) (by rw [show r - r / 16 * 16 = nI 3 from ex]; rfl) (by decide) ?_
    refine V_aload_n hC kX5_takeTurn_107 rfl ?_
    refine V_getR hC hWr 5 2 lfX5_23 kX5_takeTurn_108 (Nat.le_of_ble_eq_true rfl) (Nat.le_of_ble_eq_true rfl) rfl ?_
    refine V_iload_n hC kX5_takeTurn_111 rfl ?_
    refine V_sipush hC (200) kX5_takeTurn_112 (by decide) ?_
    refine V_irem hC kX5_takeTurn_115 (by decide) ?_
    refine V_iload_n hC kX5_takeTurn_116 rfl ?_
    refine V_sipush hC (256) kX5_takeTurn_117 (by decide) ?_
    refine V_idiv hC kX5_takeTurn_120 (by decide) ?_
    refine V_bipush hC (13) kX5_takeTurn_121 (by decide) ?_
    refine V_irem hC kX5_takeTurn_123 (by decide) ?_
    refine V_bipush hC (6) kX5_takeTurn_124 (by decide) ?_
    refine V_isub hC kX5_takeTurn_126 ?_
    refine V_cV_rI hC (cl_tryBoat hWr _ _ hR hI) mkX1_tryBoat lmX5_89 kX5_takeTurn_127 (Nat.le_of_ble_eq_true rfl) rfl rfl rfl (Nat.le_of_ble_eq_true rfl) ⟨(Nat.le_of_ble_eq_true rfl), (Nat.le_of_ble_eq_true rfl)⟩ ⟨rfl, rfl⟩ ⟨(Nat.le_of_ble_eq_true rfl), (Nat.le_of_ble_eq_true rfl)⟩ (fun x127 g127 h127 => ?_)
    refine V_pop hC kX5_takeTurn_130 rfl ?_
    refine V_goto hC 256 kX5_takeTurn_131 (by decide) ?_
    refine V_vret hC rfl kX5_takeTurn_256 ?_
    refine ⟨by with_reducible rfl, ?_⟩
    rw [F_turn, et]
    rw [show F_turnC g (r / 16) 3 = _ from (Eq.trans (if_neg (by decide : ¬ 3 < 2)) (if_pos (by decide : 3 < 4)))]
    exact ⟨h127.2.1, h127.2.2⟩
  · subst e
    refine V_tabIn hC (125) 134 kX5_takeTurn_9 (by rw [show r - r / 16 * 16 = nI 4 from ex]; decide) (by rw [show r - r / 16 * 16 = nI 4 from ex]; decide) (by rw [show r - r / 16 * 16 = nI 4 from ex]; rfl) (by decide) ?_
    refine V_aload_n hC kX5_takeTurn_134 rfl ?_
    refine V_getR hC hWr 5 2 lfX5_23 kX5_takeTurn_135 (Nat.le_of_ble_eq_true rfl) (Nat.le_of_ble_eq_true rfl) rfl ?_
    refine V_iload_n hC kX5_takeTurn_138 rfl ?_
    refine V_bipush hC (8) kX5_takeTurn_139 (by decide) ?_
    refine V_irem hC kX5_takeTurn_141 (by decide) ?_
    refine V_iload_n hC kX5_takeTurn_142 rfl ?_
    refine V_bipush hC (8) kX5_takeTurn_143 (by decide) ?_
    refine V_idiv hC kX5_takeTurn_145 (by decide) ?_
    refine V_bipush hC (13) kX5_takeTurn_146 (by decide) ?_
    refine V_irem hC kX5_takeTurn_148 (by decide) ?_
    refine V_bipush hC (6) kX5_takeTurn_149 (by decide) ?_
    refine V_isub hC kX5_takeTurn_151 ?_
    refine V_cV_rI hC (cl_trySteer hWr _ _ hR hI) mkX1_trySteer lmX5_96 kX5_takeTurn_152 (Nat.le_of_ble_eq_true rfl) rfl rfl rfl (Nat.le_of_ble_eq_true rfl) ⟨(Nat.le_of_ble_eq_true rfl), (Nat.le_of_ble_eq_true rfl)⟩ ⟨rfl, rfl⟩ ⟨(Nat.le_of_ble_eq_true rfl), (Nat.le_of_ble_eq_true rfl)⟩ (fun x152 g152 h152 => ?_)
    refine V_pop hC kX5_takeTurn_155 rfl ?_
    refine V_goto hC 256 kX5_takeTurn_156 (by decide) ?_
    refine V_vret hC rfl kX5_takeTurn_256 ?_
    refine ⟨by with_reducible rfl, ?_⟩
    rw [F_turn, et]
    rw [show F_turnC g (r / 16) 4 = _ from (Eq.trans (if_neg (by decide : ¬ 4 < 2)) (Eq.trans (if_neg (by decide : ¬ 4 < 4)) (if_pos (by decide : 4 < 5))))]
    exact ⟨h152.2.1, h152.2.2⟩
  · subst e
    refine V_tabIn hC (150) 159 kX5_takeTurn_9 (by rw [show r - r / 16 * 16 = nI 5 from ex]; decide) (by rw [show r - r / 16 * 16 = nI 5 from ex]; decide) (by rw [show r - r / 16 * 16 = nI 5 from ex]; rfl) (by decide) ?_
    refine V_aload_n hC kX5_takeTurn_159 rfl ?_
    refine V_getR hC hWr 5 2 lfX5_23 kX5_takeTurn_160 (Nat.le_of_ble_eq_true rfl) (Nat.le_of_ble_eq_true rfl) rfl ?_
    refine V_iload_n hC kX5_takeTurn_163 rfl ?_
    refine V_bipush hC (8) kX5_takeTurn_164 (by decide) ?_
    refine V_irem hC kX5_takeTurn_166 (by decide) ?_
    refine V_iconst hC (1) kX5_takeTurn_167 (by decide) ?_
    refine V_iload_n hC kX5_takeTurn_168 rfl ?_
    refine V_bipush hC (8) kX5_takeTurn_169 (by decide) ?_
    refine V_idiv hC kX5_takeTurn_171 (by decide) ?_
    refine V_bipush hC (60) kX5_takeTurn_172 (by decide) ?_
    refine V_irem hC kX5_takeTurn_174 (by decide) ?_
    refine V_iadd hC kX5_takeTurn_175 ?_
    refine V_cV_rI hC (cl_tryTalk hWr _ _ hR hI) mkX1_tryTalk lmX5_93 kX5_takeTurn_176 (Nat.le_of_ble_eq_true rfl) rfl rfl rfl (Nat.le_of_ble_eq_true rfl) ⟨(Nat.le_of_ble_eq_true rfl), (Nat.le_of_ble_eq_true rfl)⟩ ⟨rfl, rfl⟩ ⟨(Nat.le_of_ble_eq_true rfl), (Nat.le_of_ble_eq_true rfl)⟩ (fun x176 g176 h176 => ?_)
    refine V_pop hC kX5_takeTurn_179 rfl ?_
    refine V_goto hC 256 kX5_takeTurn_180 (by decide) ?_
    refine V_vret hC rfl kX5_takeTurn_256 ?_
    refine ⟨by with_reducible rfl, ?_⟩
    rw [F_turn, et]
    rw [show F_turnC g (r / 16) 5 = _ from (Eq.trans (if_neg (by decide : ¬ 5 < 2)) (Eq.trans (if_neg (by decide : ¬ 5 < 4)) (Eq.trans (if_neg (by decide : ¬ 5 < 5)) (if_pos (by decide : 5 < 7)))))]
    exact ⟨h176.2.1, h176.2.2⟩
  · subst e
    refine V_tabIn hC (150) 159 kX5_takeTurn_9 (by rw [show r - r / 16 * 16 = nI 6 from ex]; decide) (by rw [show r - r / 16 * 16 = nI 6 from ex]; decide) (by rw [show r - r / 16 * 16 = nI 6 from ex]; rfl) (by decide) ?_
    refine V_aload_n hC kX5_takeTurn_159 rfl ?_
    refine V_getR hC hWr 5 2 lfX5_23 kX5_takeTurn_160 (Nat.le_of_ble_eq_true rfl) (Nat.le_of_ble_eq_true rfl) rfl ?_
    refine V_iload_n hC kX5_takeTurn_163 rfl ?_
    refine V_bipush hC (8) kX5_takeTurn_164 (by decide) ?_
    refine V_irem hC kX5_takeTurn_166 (by decide) ?_
    refine V_iconst hC (1) kX5_takeTurn_167 (by decide) ?_
    refine V_iload_n hC kX5_takeTurn_168 rfl ?_
    refine V_bipush hC (8) kX5_takeTurn_169 (by decide) ?_
    refine V_idiv hC kX5_takeTurn_171 (by decide) ?_
    refine V_bipush hC (60) kX5_takeTurn_172 (by decide) ?_
    refine V_irem hC kX5_takeTurn_174 (by decide) ?_
    refine V_iadd hC kX5_takeTurn_175 ?_
    refine V_cV_rI hC (cl_tryTalk hWr _ _ hR hI) mkX1_tryTalk lmX5_93 kX5_takeTurn_176 (Nat.le_of_ble_eq_true rfl) rfl rfl rfl (Nat.le_of_ble_eq_true rfl) ⟨(Nat.le_of_ble_eq_true rfl), (Nat.le_of_ble_eq_true rfl)⟩ ⟨rfl, rfl⟩ ⟨(Nat.le_of_ble_eq_true rfl), (Nat.le_of_ble_eq_true rfl)⟩ (fun x176 g176 h176 => ?_)
    refine V_pop hC kX5_takeTurn_179 rfl ?_
    refine V_goto hC 256 kX5_takeTurn_180 (by decide) ?_
    refine V_vret hC rfl kX5_takeTurn_256 ?_
    refine ⟨by with_reducible rfl, ?_⟩
    rw [F_turn, et]
    rw [show F_turnC g (r / 16) 6 = _ from (Eq.trans (if_neg (by decide : ¬ 6 < 2)) (Eq.trans (if_neg (by decide : ¬ 6 < 4)) (Eq.trans (if_neg (by decide : ¬ 6 < 5)) (if_pos (by decide : 6 < 7)))))]
    exact ⟨h176.2.1, h176.2.2⟩
  · subst e
    refine V_tabIn hC (174) 183 kX5_takeTurn_9 (by rw [show r - r / 16 * 16 = nI 7 from ex]; decide) (by rw [show r - r / 16 * 16 = nI 7 from ex]; decide) (by rw [show r - r / 16 * 16 = nI 7 from ex]; rfl) (by decide) ?_
    refine V_iload_n hC kX5_takeTurn_183 rfl ?_
    refine V_sipush hC (512) kX5_takeTurn_184 (by decide) ?_
    refine V_idiv hC kX5_takeTurn_187 (by decide) ?_
    refine V_iconst hC (2) kX5_takeTurn_188 (by decide) ?_
    refine V_irem hC kX5_takeTurn_189 (by decide) ?_
    refine V_if_ne hC 218 kX5_takeTurn_190 (by decide) (fun h190 => ?_) (fun h190 => ?_)
    · refine V_aload_n hC kX5_takeTurn_218 rfl ?_
      refine V_getR hC hWr 5 2 lfX5_23 kX5_takeTurn_219 (Nat.le_of_ble_eq_true rfl) (Nat.le_of_ble_eq_true rfl) rfl ?_
      refine V_iload_n hC kX5_takeTurn_222 rfl ?_
      refine V_bipush hC (6) kX5_takeTurn_223 (by decide) ?_
      refine V_irem hC kX5_takeTurn_225 (by decide) ?_
      refine V_bipush hC (10) kX5_takeTurn_226 (by decide) ?_
      refine V_iload_n hC kX5_takeTurn_228 rfl ?_
      refine V_bipush hC (8) kX5_takeTurn_229 (by decide) ?_
      refine V_idiv hC kX5_takeTurn_231 (by decide) ?_
      refine V_bipush hC (90) kX5_takeTurn_232 (by decide) ?_
      refine V_irem hC kX5_takeTurn_234 (by decide) ?_
      refine V_iadd hC kX5_takeTurn_235 ?_
      refine V_cV_rI hC (cl_tryDim hWr _ _ hR hI) mkX1_tryDim lmX5_308 kX5_takeTurn_236 (Nat.le_of_ble_eq_true rfl) rfl rfl rfl (Nat.le_of_ble_eq_true rfl) ⟨(Nat.le_of_ble_eq_true rfl), (Nat.le_of_ble_eq_true rfl)⟩ ⟨rfl, rfl⟩ ⟨(Nat.le_of_ble_eq_true rfl), (Nat.le_of_ble_eq_true rfl)⟩ (fun x236 g236 h236 => ?_)
      refine V_pop hC kX5_takeTurn_239 rfl ?_
      refine V_goto hC 256 kX5_takeTurn_240 (by decide) ?_
      refine V_vret hC rfl kX5_takeTurn_256 ?_
      refine ⟨by with_reducible rfl, ?_⟩
      rw [F_turn, et]
      first
      | (rw [show F_turnC g (r / 16) 7 = _ from (Eq.trans (if_neg (by decide : ¬ 7 < 2)) (Eq.trans (if_neg (by decide : ¬ 7 < 4)) (Eq.trans (if_neg (by decide : ¬ 7 < 5)) (Eq.trans (if_neg (by decide : ¬ 7 < 7)) (Eq.trans (if_pos (by decide : 7 < 8)) (if_pos h190))))))]; exact ⟨h211.2.1, h211.2.2⟩)
      | (rw [show F_turnC g (r / 16) 7 = _ from (Eq.trans (if_neg (by decide : ¬ 7 < 2)) (Eq.trans (if_neg (by decide : ¬ 7 < 4)) (Eq.trans (if_neg (by decide : ¬ 7 < 5)) (Eq.trans (if_neg (by decide : ¬ 7 < 7)) (Eq.trans (if_pos (by decide : 7 < 8)) (if_neg h190))))))]; exact ⟨h236.2.1, h236.2.2⟩)
    · refine V_aload_n hC kX5_takeTurn_193 rfl ?_
      refine V_getR hC hWr 5 2 lfX5_23 kX5_takeTurn_194 (Nat.le_of_ble_eq_true rfl) (Nat.le_of_ble_eq_true rfl) rfl ?_
      refine V_iload_n hC kX5_takeTurn_197 rfl ?_
      refine V_bipush hC (6) kX5_takeTurn_198 (by decide) ?_
      refine V_irem hC kX5_takeTurn_200 (by decide) ?_
      refine V_iload_n hC kX5_takeTurn_201 rfl ?_
      refine V_bipush hC (8) kX5_takeTurn_202 (by decide) ?_
      refine V_idiv hC kX5_takeTurn_204 (by decide) ?_
      refine V_bipush hC (61) kX5_takeTurn_205 (by decide) ?_
      refine V_irem hC kX5_takeTurn_207 (by decide) ?_
      refine V_bipush hC (30) kX5_takeTurn_208 (by decide) ?_
      refine V_isub hC kX5_takeTurn_210 ?_
      refine V_cV_rI hC (cl_tryLean hWr _ _ hR hI) mkX1_tryLean lmX5_284 kX5_takeTurn_211 (Nat.le_of_ble_eq_true rfl) rfl rfl rfl (Nat.le_of_ble_eq_true rfl) ⟨(Nat.le_of_ble_eq_true rfl), (Nat.le_of_ble_eq_true rfl)⟩ ⟨rfl, rfl⟩ ⟨(Nat.le_of_ble_eq_true rfl), (Nat.le_of_ble_eq_true rfl)⟩ (fun x211 g211 h211 => ?_)
      refine V_pop hC kX5_takeTurn_214 rfl ?_
      refine V_goto hC 256 kX5_takeTurn_215 (by decide) ?_
      refine V_vret hC rfl kX5_takeTurn_256 ?_
      refine ⟨by with_reducible rfl, ?_⟩
      rw [F_turn, et]
      first
      | (rw [show F_turnC g (r / 16) 7 = _ from (Eq.trans (if_neg (by decide : ¬ 7 < 2)) (Eq.trans (if_neg (by decide : ¬ 7 < 4)) (Eq.trans (if_neg (by decide : ¬ 7 < 5)) (Eq.trans (if_neg (by decide : ¬ 7 < 7)) (Eq.trans (if_pos (by decide : 7 < 8)) (if_pos h190))))))]; exact ⟨h211.2.1, h211.2.2⟩)
      | (rw [show F_turnC g (r / 16) 7 = _ from (Eq.trans (if_neg (by decide : ¬ 7 < 2)) (Eq.trans (if_neg (by decide : ¬ 7 < 4)) (Eq.trans (if_neg (by decide : ¬ 7 < 5)) (Eq.trans (if_neg (by decide : ¬ 7 < 7)) (Eq.trans (if_pos (by decide : 7 < 8)) (if_neg h190))))))]; exact ⟨h236.2.1, h236.2.2⟩)
  · refine V_tabOut hC 243 kX5_takeTurn_9 (Or.inr (by rw [show r - r / 16 * 16 = nI N from ex, nI_toInt (by omega)]; omega)) (by decide) ?_
    refine V_aload_n hC kX5_takeTurn_243 rfl ?_
    refine V_getR hC hWr 5 2 lfX5_23 kX5_takeTurn_244 (Nat.le_of_ble_eq_true rfl) (Nat.le_of_ble_eq_true rfl) rfl ?_
    refine V_iconst hC (1) kX5_takeTurn_247 (by decide) ?_
    refine V_iload_n hC kX5_takeTurn_248 rfl ?_
    refine V_bipush hC (12) kX5_takeTurn_249 (by decide) ?_
    refine V_irem hC kX5_takeTurn_251 (by decide) ?_
    refine V_iadd hC kX5_takeTurn_252 ?_
    obtain ⟨k0, hk0, ek0⟩ := rem_nI (r := r / 16) (by exact div_pos (d := 16) hr (by decide) (by decide)) (d := 12) (by decide) (by decide)
    obtain ⟨M, eM, hM1, hM2⟩ : ∃ M, 1 + rm (r / 16) 12 = nI M ∧ 1 ≤ M ∧ M ≤ 60 := ⟨1 + k0, by rw [show rm (r / 16) 12 = nI k0 from ek0, show (1 : Int32) = nI 1 from rfl, nI_add], by omega, by omega⟩
    have hin : inn (1 + rm (r / 16) 12) 1 60 := by rw [eM]; exact ⟨nI_le (a := 1) (b := M) hM1 (by omega), nI_le (a := M) (b := 60) hM2 (by decide)⟩
    rw [show (1 : Int32) + (r / 16 - r / 16 / 12 * 12) = nI M from eM]
    refine V_cV_rV hC (cl_pass hWr hR hI (N := M) (by omega)) mkX1_pass lmX5_102 kX5_takeTurn_253 (Nat.le_of_ble_eq_true rfl) rfl rfl rfl (Nat.le_of_ble_eq_true rfl) ⟨(Nat.le_of_ble_eq_true rfl), (Nat.le_of_ble_eq_true rfl)⟩ ⟨rfl, rfl⟩ ⟨(Nat.le_of_ble_eq_true rfl), (Nat.le_of_ble_eq_true rfl)⟩ (fun g253 h253 => ?_)
    refine V_vret hC rfl kX5_takeTurn_256 ?_
    refine ⟨by with_reducible rfl, ?_⟩
    rw [F_turn, et]
    rw [show F_turnC g (r / 16) N = _ from (Eq.trans (if_neg (by omega : ¬ N < 2)) (Eq.trans (if_neg (by omega : ¬ N < 4)) (Eq.trans (if_neg (by omega : ¬ N < 5)) (Eq.trans (if_neg (by omega : ¬ N < 7)) (if_neg (by omega : ¬ N < 8)))))), if_pos hin, show tn (1 + rm (r / 16) 12) = M by rw [eM]; exact nI_clamp (by omega)]
    exact h253

