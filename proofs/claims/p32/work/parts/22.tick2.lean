-- HOW cl_isPlace fI
-- HOW cl_isSpeed fI
-- HOW cl_isStrength fI
-- HOW cl_isTickCount fI
-- HOW cl_isSetting fI
-- HOW cl_isSlot fI
-- HOW cl_isSettingValue fI
-- HOW cl_shown fI
-- HOW cl_lbegin fV
-- HOW cl_lcopy fV
-- HOW cl_bcopy fV
-- HOW cl_lnum fI
-- HOW cl_bnum fI
-- HOW cl_bright fI
-- HOW cl_worth fI
-- HOW cl_bitCount fI
-- HOW cl_servedCount fI
-- HOW cl_takesHandedOn fI
-- HOW cl_takesOthers fI
-- HOW cl_bbegin fV
-- HOW cl_move fV
-- HOW cl_wishFor fV
-- HOW cl_lightR fR
-- HOW cl_lightN fR
-- HOW cl_boatR fR
-- HOW cl_boatN fR
-- HOW cl_setR fI
-- HOW cl_lightAt fR
-- HOW cl_lightAtNo fR
-- HOW cl_boatAt fR
-- HOW cl_boatAtNo fR
-- HOW cl_settingOf fI
-- HOW cl_servedBoats fI
-- HOW cl_talkingBoats fI
-- HOW cl_numberOf fI
-- HOW cl_brightest fI
-- HOW cl_isDark fI
-- HOW cl_freePlaces fI
-- HOW cl_lightFault fI
-- HOW cl_boatFault fI
-- HOW cl_steerFault fI
-- HOW cl_dimFault fI
-- HOW cl_leanFault fI
-- HOW cl_talkFault fI
-- HOW cl_putSpeed rI
-- HOW cl_putTalk rI
-- HOW cl_putLeaning rI
-- HOW cl_putStrength rI
-- HOW cl_putSetting rI
-- HOW cl_addLight rI
-- HOW cl_addBoat rI
-- HOW cl_tryLight rI
-- HOW cl_tryBoat rI
-- HOW cl_trySteer rI
-- HOW cl_tryTalk rI
-- HOW cl_tryLean rI
-- HOW cl_tryDim rI
-- HOW cl_serve rV
-- HOW cl_lose rV
-- HOW cl_bestWish fI
-- HOW cl_seekKeeper rV
-- HOW cl_ask rV
-- HOW cl_sail rV
-- HOW cl_pass rV
/-! the class: a boat goes on, ticks go by -/
theorem move_rel {sg sg1 : Sg} {c : Nat} {g : Gs} (hR : Rel sg c g) (hI : Inv g) {n : Nat} (hn : n < tn (g 5)) (e : sg1 = if inn (sg (c + 9 + n) 1 + sg (c + 9 + n) 2) 0 199 then ups sg (c + 9 + n) 1 (sg (c + 9 + n) 1 + sg (c + 9 + n) 2) else ups sg (c + 9 + n) 2 (-(sg (c + 9 + n) 2))) : Rel sg1 c (F_sails g (nI n)) ∧ Fr c sg sg1 := by
  have h8 : n < 8 := by have := hI.c5.1; omega
  subst e
  rw [hR.b1 hI hn, hR.b2 hI hn]
  unfold F_sails
  split
  · exact ⟨hR.pb1 hI h8 _ rfl, (Fr.rf c sg).ups _ _ (by omega)⟩
  · exact ⟨hR.pb2 hI h8 _ rfl, (Fr.rf c sg).ups _ _ (by omega)⟩
theorem onA_none {g : Gs} {b : Int32} (e : gB g b 2 - 1 = -1) : F_onA g b = g := by
  unfold F_onA
  rw [if_neg (fun z => z.1 e), if_neg (fun z => z e)]
theorem onA_drop {g : Gs} {b : Int32} {k : Nat} (hk : k < 6) (e : gB g b 2 - 1 = nI k) (h : F_bright g (nI k) (gB g b 0) < g 2) : F_onA g b = F_drops g b := by
  unfold F_onA
  rw [if_pos ⟨by rw [e]; exact nI_m1 (by omega), by rw [e]; exact h⟩]
theorem onA_wish {g : Gs} {b : Int32} {k : Nat} (hk : k < 6) (e : gB g b 2 - 1 = nI k) (h : ¬ F_bright g (nI k) (gB g b 0) < g 2) : F_onA g b = F_wishes g b := by
  unfold F_onA
  rw [if_neg (fun z => h (by have := z.2; rw [e] at this; exact this)), if_pos (by rw [e]; exact nI_m1 (by omega))]
theorem wishA_2 {g : Gs} {n : Nat} (h8 : n < 8) : F_wishA g (nI n) (60 + 10 * n + 2) = g (60 + 10 * n + 2) := by
  unfold F_wishA
  rw [pB_4 _ _ h8, pB_5 _ _ h8, pk_un (by omega), pk_un (by omega)]
theorem wishA_4 {g : Gs} {n : Nat} (h8 : n < 8) : gB (F_wishA g (nI n)) (nI n) 4 = F_wished g (nI n) + 1 := by
  rw [gB_4 _ h8]
  unfold F_wishA
  rw [pB_4 _ _ h8, pB_5 _ _ h8, pk_un (by omega), pk_us]
theorem wishA_5 {g : Gs} {n : Nat} (h8 : n < 8) : gB (F_wishA g (nI n)) (nI n) 5 = F_wticks g (nI n) (F_wished g (nI n)) := by
  rw [gB_5 _ h8]
  unfold F_wishA
  rw [pB_4 _ _ h8, pB_5 _ _ h8, pk_us]
theorem hands_2 {g : Gs} {n m : Nat} (h8 : n < 8) (h6 : m < 6) : F_hands g (nI n) (nI m) (60 + 10 * n + 2) = nI m + 1 := by
  unfold F_hands F_handsB F_handsA F_inc
  rw [tnB_7 h8, tnB_8 h8, tnL_7 h6, gB_2 _ h8, pB_2 _ _ h8, pB_4 _ _ h8, pB_5 _ _ h8, pB_6 _ _ h8, pB_9 _ _ h8]
  repeat (first | rw [pk_us] | rw [pk_un (by omega)])
theorem wishes_by {g : Gs} (h : Inv g) {n k : Nat} (h8 : n < 8) (hk : k < 6) (ho : gB g (nI n) 2 = nI k + 1) : ¬ gB (F_wishes g (nI n)) (nI n) 2 = 0 := by
  have h4 := h.c4.1
  rw [gB_2 _ h8] at ho ⊢
  have hA := wishA_2 (g := g) h8
  unfold F_wishes
  split
  · rw [hA, ho]
    exact fun z => nIs_0 (by omega) z.symm
  · rename_i hz
    split
    · rw [inc_at (by omega), hA, ho]
      exact fun z => nIs_0 (by omega) z.symm
    · rcases F_wishedN_in g (nI n) (tn (g 4)) with e | ⟨j, hj, e⟩
      · exact absurd (Or.inl e) hz
      · have e : F_wished g (nI n) = nI j := e
        rw [e, hands_2 h8 (by omega)]
        exact fun z => nIs_0 (by omega) z.symm
theorem onB_find {g : Gs} {b : Int32} (h : gB g b 2 = 0) : F_onB g b = F_finds g b := if_pos h
theorem onB_same {g : Gs} {b : Int32} (h : ¬ gB g b 2 = 0) : F_onB g b = g := if_neg h
theorem drops_2 {g : Gs} {n : Nat} (h8 : n < 8) : gB (F_drops g (nI n)) (nI n) 2 = 0 := by
  rw [gB_2 _ h8]
  unfold F_drops F_dropsA
  simp only [pB_2 _ _ h8, pB_4 _ _ h8, pB_5 _ _ h8, pB_3 _ _ h8]
  rw [pk_un (by omega), pk_un (by omega), pk_un (by omega), pk_un (by omega), pk_us]
theorem wish_rel {sg sg2 : Sg} {c : Nat} {g : Gs} (hR : Rel sg c g) (hI : Inv g) {n : Nat} (hn : n < tn (g 5)) (e : sg2 = upr sg (c + 9 + n) (upd (upd (sg (c + 9 + n)) 6 (if F_wished g (nI n) = -1 then 0 else if F_wished g (nI n) = sg (c + 9 + n) 5 then sg (c + 9 + n) 6 + 1 else 1)) 5 (F_wished g (nI n)))) : Rel sg2 c (F_wishA g (nI n)) ∧ Fr c sg sg2 := by
  have h8 : n < 8 := by have := hI.c5.1; omega
  subst e
  refine ⟨?_, (Fr.rf c sg).upr _ (by omega)⟩
  have h := hR.wishFor hI.cn h8 (t := if F_wished g (nI n) = -1 then 0 else if F_wished g (nI n) = sg (c + 9 + n) 5 then sg (c + 9 + n) 6 + 1 else 1) (a := F_wished g (nI n)) (y := F_wished g (nI n) + 1) sub1.symm
  have et : (if F_wished g (nI n) = -1 then 0 else if F_wished g (nI n) = sg (c + 9 + n) 5 then sg (c + 9 + n) 6 + 1 else 1) = F_wticks g (nI n) (F_wished g (nI n)) := by
    unfold F_wticks
    rw [hR.b5 hI hn, hR.b6 hI hn]
    split
    · rfl
    · by_cases q : F_wished g (nI n) = gB g (nI n) 4 - 1
      · rw [if_pos q, if_pos (by grind)]
      · rw [if_neg q, if_neg (by grind)]
  unfold F_wishA
  rw [pB_4 _ _ h8, pB_5 _ _ h8, ← et, fa_upd_swap g (show 60 + 10 * n + 4 ≠ 60 + 10 * n + 5 by omega)]
  exact h
theorem wishes_a {g : Gs} {n : Nat} (h : F_wticks g (nI n) (F_wished g (nI n)) < F_wishA g (nI n) 1) : F_wishes g (nI n) = F_wishA g (nI n) := if_pos (Or.inr h)
theorem wishes_b {g : Gs} (hI : Inv g) {n m : Nat} (hm : m < 6) (e : F_wished g (nI n) = nI m) (h : ¬ F_wticks g (nI n) (F_wished g (nI n)) < F_wishA g (nI n) 1) : F_wishes g (nI n) = (if F_serves (F_wishA g (nI n)) (nI m) = gL (F_wishA g (nI n)) (nI m) 4 then F_inc (F_wishA g (nI n)) 9 1 else F_hands (F_wishA g (nI n)) (nI n) (nI m)) := by
  unfold F_wishes
  rw [if_neg (fun z => z.elim (fun q => nI_m1 (by omega) (e.symm.trans q)) h), e]
theorem wished_m {g : Gs} (hI : Inv g) {n : Nat} (h8 : n < 8) (h : ¬ F_wticks g (nI n) (F_wished g (nI n)) < F_wishA g (nI n) 1) : ∃ m, m < tn (g 4) ∧ F_wished g (nI n) = nI m := by
  rcases F_wishedN_in g (nI n) (tn (g 4)) with e | e
  · have e : F_wished g (nI n) = -1 := e
    refine absurd ?_ h
    unfold F_wticks
    rw [if_pos e, wishA_c h8 (by decide)]
    have := hI.1.2.1
    exact Int32.lt_iff_toInt_lt.mpr (by have z : (0 : Int32).toInt = 0 := rfl; have := this.1; omega)
  · exact e
theorem onC_rel {sg : Sg} {c : Nat} {g : Gs} (hR : Rel sg c g) (hI : Inv g) {n : Nat} (hn : n < tn (g 5)) : (¬ 0 < sg (c + 9 + n) 4 → Rel sg c (F_onC g (nI n))) ∧ (0 < sg (c + 9 + n) 4 → Rel (ups sg (c + 9 + n) 4 (sg (c + 9 + n) 4 - 1)) c (F_onC g (nI n))) := by
  have h8 : n < 8 := by have := hI.c5.1; omega
  rw [hR.b4 hI hn]
  unfold F_onC
  constructor
  · intro h
    rw [if_neg h, pB_3 _ _ h8]
    rw [gB_3 _ h8] at h
    obtain ⟨b1, b2, b3, b4, b5, b6⟩ := hI.2.2.2.1 n hn
    have := Int32.le_iff_toInt_le.mp (Int32.not_lt.mp h)
    have z0 : (0 : Int32).toInt = 0 := rfl
    have e : g (60 + 10 * n + 3) = 0 := Int32.toInt_inj.mp (by have := b4.1; omega)
    rw [fa_upd_same e]
    exact hR
  · intro h
    rw [if_pos h]
    exact hR.pb4 hI h8 _ rfl
def mtX1_sail : Mt := (yX1_sail, cX1_sail, 3, none, 4, 86, 0, 0)
theorem kX1_sail_0 : Dk mtX1_sail 0 (.aload_n 1) 1 1 := ⟨by decide +kernel, rfl⟩
theorem kX1_sail_1 : Dk mtX1_sail 1 (.invokevirtual 183) 3 4 := ⟨by decide +kernel, rfl⟩
theorem kX1_sail_4 : Dk mtX1_sail 4 (.aload_n 0) 1 5 := ⟨by decide +kernel, rfl⟩
theorem kX1_sail_5 : Dk mtX1_sail 5 (.aload_n 1) 1 6 := ⟨by decide +kernel, rfl⟩
theorem kX1_sail_6 : Dk mtX1_sail 6 (.getfield 88) 3 9 := ⟨by decide +kernel, rfl⟩
theorem kX1_sail_9 : Dk mtX1_sail 9 (.invokevirtual 62) 3 12 := ⟨by decide +kernel, rfl⟩
theorem kX1_sail_12 : Dk mtX1_sail 12 (.astore_n 2) 1 13 := ⟨by decide +kernel, rfl⟩
theorem kX1_sail_13 : Dk mtX1_sail 13 (.aload_n 2) 1 14 := ⟨by decide +kernel, rfl⟩
theorem kX1_sail_14 : Dk mtX1_sail 14 (.ifnull 30) 3 17 := ⟨by decide +kernel, rfl⟩
theorem kX1_sail_17 : Dk mtX1_sail 17 (.aload_n 2) 1 18 := ⟨by decide +kernel, rfl⟩
theorem kX1_sail_18 : Dk mtX1_sail 18 (.aload_n 1) 1 19 := ⟨by decide +kernel, rfl⟩
theorem kX1_sail_19 : Dk mtX1_sail 19 (.getfield 107) 3 22 := ⟨by decide +kernel, rfl⟩
theorem kX1_sail_22 : Dk mtX1_sail 22 (.aload_n 0) 1 23 := ⟨by decide +kernel, rfl⟩
theorem kX1_sail_23 : Dk mtX1_sail 23 (.getfield 44) 3 26 := ⟨by decide +kernel, rfl⟩
theorem kX1_sail_26 : Dk mtX1_sail 26 (.invokevirtual 98) 3 29 := ⟨by decide +kernel, rfl⟩
theorem kX1_sail_29 : Dk mtX1_sail 29 (.aload_n 0) 1 30 := ⟨by decide +kernel, rfl⟩
theorem kX1_sail_30 : Dk mtX1_sail 30 (.iconst 2) 1 31 := ⟨by decide +kernel, rfl⟩
theorem kX1_sail_31 : Dk mtX1_sail 31 (.invokevirtual 77) 3 34 := ⟨by decide +kernel, rfl⟩
theorem kX1_sail_34 : Dk mtX1_sail 34 (.if_icmp .ge 10) 3 37 := ⟨by decide +kernel, rfl⟩
theorem kX1_sail_37 : Dk mtX1_sail 37 (.aload_n 0) 1 38 := ⟨by decide +kernel, rfl⟩
theorem kX1_sail_38 : Dk mtX1_sail 38 (.aload_n 1) 1 39 := ⟨by decide +kernel, rfl⟩
theorem kX1_sail_39 : Dk mtX1_sail 39 (.invokevirtual 186) 3 42 := ⟨by decide +kernel, rfl⟩
theorem kX1_sail_42 : Dk mtX1_sail 42 (.aconst_null) 1 43 := ⟨by decide +kernel, rfl⟩
theorem kX1_sail_43 : Dk mtX1_sail 43 (.astore_n 2) 1 44 := ⟨by decide +kernel, rfl⟩
theorem kX1_sail_44 : Dk mtX1_sail 44 (.aload_n 2) 1 45 := ⟨by decide +kernel, rfl⟩
theorem kX1_sail_45 : Dk mtX1_sail 45 (.ifnonnull 11) 3 48 := ⟨by decide +kernel, rfl⟩
theorem kX1_sail_48 : Dk mtX1_sail 48 (.aload_n 0) 1 49 := ⟨by decide +kernel, rfl⟩
theorem kX1_sail_49 : Dk mtX1_sail 49 (.aload_n 1) 1 50 := ⟨by decide +kernel, rfl⟩
theorem kX1_sail_50 : Dk mtX1_sail 50 (.invokevirtual 189) 3 53 := ⟨by decide +kernel, rfl⟩
theorem kX1_sail_53 : Dk mtX1_sail 53 (.goto 30) 3 56 := ⟨by decide +kernel, rfl⟩
theorem kX1_sail_56 : Dk mtX1_sail 56 (.aload_n 1) 1 57 := ⟨by decide +kernel, rfl⟩
theorem kX1_sail_57 : Dk mtX1_sail 57 (.aload_n 0) 1 58 := ⟨by decide +kernel, rfl⟩
theorem kX1_sail_58 : Dk mtX1_sail 58 (.aload_n 1) 1 59 := ⟨by decide +kernel, rfl⟩
theorem kX1_sail_59 : Dk mtX1_sail 59 (.aload_n 2) 1 60 := ⟨by decide +kernel, rfl⟩
theorem kX1_sail_60 : Dk mtX1_sail 60 (.invokevirtual 192) 3 63 := ⟨by decide +kernel, rfl⟩
theorem kX1_sail_63 : Dk mtX1_sail 63 (.invokevirtual 196) 3 66 := ⟨by decide +kernel, rfl⟩
theorem kX1_sail_66 : Dk mtX1_sail 66 (.aload_n 1) 1 67 := ⟨by decide +kernel, rfl⟩
theorem kX1_sail_67 : Dk mtX1_sail 67 (.getfield 199) 3 70 := ⟨by decide +kernel, rfl⟩
theorem kX1_sail_70 : Dk mtX1_sail 70 (.aload_n 0) 1 71 := ⟨by decide +kernel, rfl⟩
theorem kX1_sail_71 : Dk mtX1_sail 71 (.iconst 1) 1 72 := ⟨by decide +kernel, rfl⟩
theorem kX1_sail_72 : Dk mtX1_sail 72 (.invokevirtual 77) 3 75 := ⟨by decide +kernel, rfl⟩
theorem kX1_sail_75 : Dk mtX1_sail 75 (.if_icmp .lt 8) 3 78 := ⟨by decide +kernel, rfl⟩
theorem kX1_sail_78 : Dk mtX1_sail 78 (.aload_n 0) 1 79 := ⟨by decide +kernel, rfl⟩
theorem kX1_sail_79 : Dk mtX1_sail 79 (.aload_n 1) 1 80 := ⟨by decide +kernel, rfl⟩
theorem kX1_sail_80 : Dk mtX1_sail 80 (.invokevirtual 202) 3 83 := ⟨by decide +kernel, rfl⟩
theorem kX1_sail_83 : Dk mtX1_sail 83 (.aload_n 1) 1 84 := ⟨by decide +kernel, rfl⟩
theorem kX1_sail_84 : Dk mtX1_sail 84 (.getfield 91) 3 87 := ⟨by decide +kernel, rfl⟩
theorem kX1_sail_87 : Dk mtX1_sail 87 (.ifCond .le 13) 3 90 := ⟨by decide +kernel, rfl⟩
theorem kX1_sail_90 : Dk mtX1_sail 90 (.aload_n 1) 1 91 := ⟨by decide +kernel, rfl⟩
theorem kX1_sail_91 : Dk mtX1_sail 91 (.dup) 1 92 := ⟨by decide +kernel, rfl⟩
theorem kX1_sail_92 : Dk mtX1_sail 92 (.getfield 91) 3 95 := ⟨by decide +kernel, rfl⟩
theorem kX1_sail_95 : Dk mtX1_sail 95 (.iconst 1) 1 96 := ⟨by decide +kernel, rfl⟩
theorem kX1_sail_96 : Dk mtX1_sail 96 (.isub) 1 97 := ⟨by decide +kernel, rfl⟩
theorem kX1_sail_97 : Dk mtX1_sail 97 (.putfield 91) 3 100 := ⟨by decide +kernel, rfl⟩
theorem kX1_sail_100 : Dk mtX1_sail 100 (.return_) 1 101 := ⟨by decide +kernel, rfl⟩
theorem lmX1_183 : LkM RX1 183 mtX0_move := Or.inl (by decide +kernel)
theorem mkX0_move : MkV mtX0_move 0 := ⟨List.mem_of_getElem? (i := 537) (by decide +kernel), by decide +kernel, by decide +kernel, by decide +kernel, ⟨by decide +kernel, by decide +kernel, by decide +kernel⟩⟩
theorem lmX1_189 : LkM RX1 189 mtX1_seekKeeper := Or.inl (by decide +kernel)
theorem mkX1_seekKeeper : MkV mtX1_seekKeeper 1 := ⟨List.mem_of_getElem? (i := 554) (by decide +kernel), by decide +kernel, by decide +kernel, by decide +kernel, ⟨by decide +kernel, by decide +kernel, by decide +kernel⟩⟩
theorem lmX1_192 : LkM RX1 192 mtX1_bestWish := Or.inl (by decide +kernel)
theorem mkX1_bestWish : MkV mtX1_bestWish 2 := ⟨List.mem_of_getElem? (i := 572) (by decide +kernel), by decide +kernel, by decide +kernel, by decide +kernel, ⟨by decide +kernel, by decide +kernel, by decide +kernel⟩⟩
theorem lfX1_199 : LkF RX1 199 0 6 := Or.inr (by decide +kernel)
theorem lmX1_202 : LkM RX1 202 mtX1_ask := Or.inl (by decide +kernel)
theorem mkX1_ask : MkV mtX1_ask 1 := ⟨List.mem_of_getElem? (i := 576) (by decide +kernel), by decide +kernel, by decide +kernel, by decide +kernel, ⟨by decide +kernel, by decide +kernel, by decide +kernel⟩⟩
theorem lmX1_186 : LkM RX1 186 mtX1_lose := Or.inl (by decide +kernel)
theorem mkX1_lose : MkV mtX1_lose 1 := ⟨List.mem_of_getElem? (i := 542) (by decide +kernel), by decide +kernel, by decide +kernel, by decide +kernel, ⟨by decide +kernel, by decide +kernel, by decide +kernel⟩⟩
set_option maxHeartbeats 4000000 in
set_option maxRecDepth 100000 in
theorem cl_sail {l : Launch} {w : Wd} {sg : Sg} (hWr : Wr w) {c : Nat} {g : Gs} (hR : Rel sg c g) (hI : Inv g) {n : Nat} (hn : n < tn (g 5)) : M l mtX1_sail w [vR (some (1, 0, c)), vR (some (0, 0, c + 9 + n))] sg (rV (fun sg2 => Rel sg2 c (F_goesOn g (nI n)) ∧ Fr c sg sg2)) := by
  refine M_of [some (vR (some (1, 0, c))), some (vR (some (0, 0, c + 9 + n))), none] rfl (Nat.le_of_ble_eq_true rfl) (by decide +kernel) ?_
  intro p_ e_ s_ m_ args_ below_ meth_ c_ hC hO
  refine V_aload_n hC kX1_sail_0 rfl ?_
  refine V_cV_fV hC (cl_move hWr) mkX0_move lmX1_183 kX1_sail_1 (Nat.le_of_ble_eq_true rfl) rfl rfl rfl (Nat.le_of_ble_eq_true rfl) ⟨(Nat.le_of_ble_eq_true rfl), (Nat.le_of_ble_eq_true rfl)⟩ ⟨rfl, rfl⟩ ⟨(Nat.le_of_ble_eq_true rfl), (Nat.le_of_ble_eq_true rfl)⟩ ?_
  refine V_nameS (fun sg1 e_sg1 => ?_)
  have h8 : n < 8 := by have := hI.c5.1; omega
  obtain ⟨hRm, hF1⟩ := move_rel hR hI hn e_sg1
  have hIm := Inv_sails hI hn
  have hnm : n < tn (F_sails g (nI n) 5) := by rw [sails_lo h8 (by decide)]; exact hn
  have hgo : F_goesOn g (nI n) = F_onC (F_onB (F_onA (F_sails g (nI n)) (nI n)) (nI n)) (nI n) := rfl
  rw [hgo]
  clear hgo
  generalize F_sails g (nI n) = g1 at hRm hIm hnm ⊢
  clear hR hI hn
  have hR := hRm
  have hI := hIm
  have hn := hnm
  have h4x := hI.c4.1
  refine V_aload_n hC kX1_sail_4 rfl ?_
  refine V_aload_n hC kX1_sail_5 rfl ?_
  refine V_getI hC 0 3 lfX1_88 kX1_sail_6 (Nat.le_of_ble_eq_true rfl) (Nat.le_of_ble_eq_true rfl) rfl ?_
  rcases hI.by hn with ho | ⟨k, hk, ho⟩
  · have hRk := hR
    have hIk := hI
    have hnk := hn
    have h0k : gB g1 (nI n) 2 = 0 := by grind
    have hFk := hF1
    rw [hR.b3 hI hn, ho]
    refine V_cV_fR hC (cl_lightN hWr hR (Or.inl (by decide))) mkX1_lightAt lmX1_62 kX1_sail_9 (Nat.le_of_ble_eq_true rfl) rfl rfl rfl (Nat.le_of_ble_eq_true rfl) ⟨(Nat.le_of_ble_eq_true rfl), (Nat.le_of_ble_eq_true rfl)⟩ ⟨rfl, rfl⟩ ⟨(Nat.le_of_ble_eq_true rfl), (Nat.le_of_ble_eq_true rfl)⟩ ?_
    refine V_astore_n hC [some _, some _, some _] kX1_sail_12 rfl (Nat.le_of_ble_eq_true rfl) ?_
    refine V_aload_n hC kX1_sail_13 rfl ?_
    refine V_ifnull hC 44 kX1_sail_14 (by decide) (fun _ => ?_) (fun _ hq => by cases hq)
    refine V_aload_n hC kX1_sail_44 rfl ?_
    refine V_ifnonnull hC 56 kX1_sail_45 (by decide) (fun _ hq => by cases hq) (fun _ => ?_)
    refine V_aload_n hC kX1_sail_48 rfl ?_
    refine V_aload_n hC kX1_sail_49 rfl ?_
    refine V_cV_rV hC (cl_seekKeeper hWr hRk hIk hnk h0k) mkX1_seekKeeper lmX1_189 kX1_sail_50 (Nat.le_of_ble_eq_true rfl) rfl rfl rfl (Nat.le_of_ble_eq_true rfl) ⟨(Nat.le_of_ble_eq_true rfl), (Nat.le_of_ble_eq_true rfl)⟩ ⟨rfl, rfl⟩ ⟨(Nat.le_of_ble_eq_true rfl), (Nat.le_of_ble_eq_true rfl)⟩ (fun g50 h50 => ?_)
    have hRs : Rel g50 c (F_onB (F_onA g1 (nI n)) (nI n)) := by
      first
      | (rw [onA_none ho, onB_find h0k]; exact h50.1)
      | (rw [onA_drop (by omega) ho (Int32.not_le.mp h34), onB_find h0k]; exact h50.1)
    have hFs := hFk.tr h50.2
    refine V_goto hC 83 kX1_sail_53 (by decide) ?_
    refine V_nameS (fun sg5 e_sg5 => ?_)
    obtain ⟨hRt, hFt⟩ : Rel sg5 c (F_onB (F_onA g1 (nI n)) (nI n)) ∧ Fr c sg sg5 := by
      subst e_sg5
      first
      | exact ⟨hRs, hFs⟩
      | (rw [hOA, hOB, wishes_b hI (by omega) em h75b]; exact ⟨h80.1, (hF1.tr hFW).tr h80.2⟩)
      | (rw [hOA, hOB, wishes_a (by rw [hRW.b6 hIW hnW, wishA_5 h8] at h75; exact h75)]; exact ⟨hRW, hF1.tr hFW⟩)
    have hIt : Inv (F_onB (F_onA g1 (nI n)) (nI n)) := Inv_onB (Inv_onA hI hn) (by rw [onA_lo hI h8 lo5]; exact hn)
    have hnt : n < tn ((F_onB (F_onA g1 (nI n)) (nI n)) 5) := by rw [onB_lo h8 lo5, onA_lo hI h8 lo5]; exact hn
    obtain ⟨hc1, hc2⟩ := onC_rel hRt hIt hnt
    refine V_aload_n hC kX1_sail_83 rfl ?_
    refine V_getI hC 0 4 lfX1_91 kX1_sail_84 (Nat.le_of_ble_eq_true rfl) (Nat.le_of_ble_eq_true rfl) rfl ?_
    refine V_if_le hC 100 kX1_sail_87 (by decide) (fun h87 => ?_) (fun h87 => ?_)
    · refine V_vret hC rfl kX1_sail_100 ?_
      refine ⟨by with_reducible rfl, ?_, ?_⟩
      · first
        | exact hc1 (Int32.not_lt.mpr h87)
        | exact hc2 (Int32.not_le.mp h87)
      · first
        | exact hFt
        | exact hFt.ups _ _ (by omega)
    · refine V_aload_n hC kX1_sail_90 rfl ?_
      refine V_dup hC kX1_sail_91 rfl ?_
      refine V_getI hC 0 4 lfX1_91 kX1_sail_92 (Nat.le_of_ble_eq_true rfl) (Nat.le_of_ble_eq_true rfl) rfl ?_
      refine V_iconst hC (1) kX1_sail_95 (by decide) ?_
      refine V_isub hC kX1_sail_96 ?_
      refine V_putI hC 0 4 lfX1_91 kX1_sail_97 (Nat.le_of_ble_eq_true rfl) (Nat.le_of_ble_eq_true rfl) rfl rfl ⟨rfl, rfl⟩ ?_
      refine V_vret hC rfl kX1_sail_100 ?_
      refine ⟨by with_reducible rfl, ?_, ?_⟩
      · first
        | exact hc1 (Int32.not_lt.mpr h87)
        | exact hc2 (Int32.not_le.mp h87)
      · first
        | exact hFt
        | exact hFt.ups _ _ (by omega)
  · rw [hR.b3 hI hn, ho]
    refine V_cV_fR hC (cl_lightR hWr hR hI hk) mkX1_lightAt lmX1_62 kX1_sail_9 (Nat.le_of_ble_eq_true rfl) rfl rfl rfl (Nat.le_of_ble_eq_true rfl) ⟨(Nat.le_of_ble_eq_true rfl), (Nat.le_of_ble_eq_true rfl)⟩ ⟨rfl, rfl⟩ ⟨(Nat.le_of_ble_eq_true rfl), (Nat.le_of_ble_eq_true rfl)⟩ ?_
    refine V_astore_n hC [some _, some _, some _] kX1_sail_12 rfl (Nat.le_of_ble_eq_true rfl) ?_
    refine V_aload_n hC kX1_sail_13 rfl ?_
    refine V_ifnull hC 44 kX1_sail_14 (by decide) (fun hq => by cases hq) (fun _ _ => ?_)
    refine V_aload_n hC kX1_sail_17 rfl ?_
    refine V_aload_n hC kX1_sail_18 rfl ?_
    refine V_getI hC 0 1 lfX1_107 kX1_sail_19 (Nat.le_of_ble_eq_true rfl) (Nat.le_of_ble_eq_true rfl) rfl ?_
    refine V_aload_n hC kX1_sail_22 rfl ?_
    refine V_getI hC 1 5 lfX1_44 kX1_sail_23 (Nat.le_of_ble_eq_true rfl) (Nat.le_of_ble_eq_true rfl) rfl ?_
    refine V_cV_fI hC (cl_bright hWr _ _ (by rw [hR.b1 hI hn]; exact hR.okW hI hk (hI.bp hn))) mkX2_brightnessAt lmX1_98 kX1_sail_26 (Nat.le_of_ble_eq_true rfl) rfl rfl rfl (Nat.le_of_ble_eq_true rfl) ⟨(Nat.le_of_ble_eq_true rfl), (Nat.le_of_ble_eq_true rfl)⟩ ⟨rfl, rfl⟩ ⟨(Nat.le_of_ble_eq_true rfl), (Nat.le_of_ble_eq_true rfl)⟩ ?_
    refine V_aload_n hC kX1_sail_29 rfl ?_
    refine V_iconst hC (2) kX1_sail_30 (by decide) ?_
    refine V_cV_fI hC (cl_setR hWr hR (j := 2) (by decide) rfl) mkX1_settingOf lmX1_77 kX1_sail_31 (Nat.le_of_ble_eq_true rfl) rfl rfl rfl (Nat.le_of_ble_eq_true rfl) ⟨(Nat.le_of_ble_eq_true rfl), (Nat.le_of_ble_eq_true rfl)⟩ ⟨rfl, rfl⟩ ⟨(Nat.le_of_ble_eq_true rfl), (Nat.le_of_ble_eq_true rfl)⟩ ?_
    refine V_icmp_ge hC 44 kX1_sail_34 (by decide) (fun h34 => ?_) (fun h34 => ?_)
    · refine V_aload_n hC kX1_sail_44 rfl ?_
      refine V_ifnonnull hC 56 kX1_sail_45 (by decide) (fun _ _ => ?_) (fun hq => by cases hq)
      refine V_aload_n hC kX1_sail_56 rfl ?_
      refine V_aload_n hC kX1_sail_57 rfl ?_
      refine V_aload_n hC kX1_sail_58 rfl ?_
      refine V_aload_n hC kX1_sail_59 rfl ?_
      rw [hR.b1 hI hn, hR.bright hI hk] at h34
      have hob : gB g1 (nI n) 2 = nI k + 1 := by grind
      refine V_cV_fI hC (cl_bestWish hWr hR hI hn hk (by grind)) mkX1_bestWish lmX1_192 kX1_sail_60 (Nat.le_of_ble_eq_true rfl) rfl rfl rfl (Nat.le_of_ble_eq_true rfl) ⟨(Nat.le_of_ble_eq_true rfl), (Nat.le_of_ble_eq_true rfl)⟩ ⟨rfl, rfl⟩ ⟨(Nat.le_of_ble_eq_true rfl), (Nat.le_of_ble_eq_true rfl)⟩ ?_
      refine V_cV_fV hC (cl_wishFor hWr _) mkX0_wishFor lmX1_196 kX1_sail_63 (Nat.le_of_ble_eq_true rfl) rfl rfl rfl (Nat.le_of_ble_eq_true rfl) ⟨(Nat.le_of_ble_eq_true rfl), (Nat.le_of_ble_eq_true rfl)⟩ ⟨rfl, rfl⟩ ⟨(Nat.le_of_ble_eq_true rfl), (Nat.le_of_ble_eq_true rfl)⟩ ?_
      refine V_nameS (fun sg3 e_sg3 => ?_)
      obtain ⟨hRW, hFW⟩ := wish_rel hR hI hn e_sg3
      have hIW := Inv_wishA hI hn
      have hnW : n < tn (F_wishA g1 (nI n) 5) := by rw [wishA_c h8 (by decide)]; exact hn
      have hOA := onA_wish (by omega) ho (Int32.not_lt.mpr h34)
      have hOB := onB_same (wishes_by hI h8 (by omega) hob)
      refine V_aload_n hC kX1_sail_66 rfl ?_
      refine V_getI hC 0 6 lfX1_199 kX1_sail_67 (Nat.le_of_ble_eq_true rfl) (Nat.le_of_ble_eq_true rfl) rfl ?_
      refine V_aload_n hC kX1_sail_70 rfl ?_
      refine V_iconst hC (1) kX1_sail_71 (by decide) ?_
      refine V_cV_fI hC (cl_setR hWr hRW (j := 1) (by decide) rfl) mkX1_settingOf lmX1_77 kX1_sail_72 (Nat.le_of_ble_eq_true rfl) rfl rfl rfl (Nat.le_of_ble_eq_true rfl) ⟨(Nat.le_of_ble_eq_true rfl), (Nat.le_of_ble_eq_true rfl)⟩ ⟨rfl, rfl⟩ ⟨(Nat.le_of_ble_eq_true rfl), (Nat.le_of_ble_eq_true rfl)⟩ ?_
      refine V_icmp_lt hC 83 kX1_sail_75 (by decide) (fun h75 => ?_) (fun h75 => ?_)
      · refine V_nameS (fun sg5 e_sg5 => ?_)
        obtain ⟨hRt, hFt⟩ : Rel sg5 c (F_onB (F_onA g1 (nI n)) (nI n)) ∧ Fr c sg sg5 := by
          subst e_sg5
          first
          | exact ⟨hRs, hFs⟩
          | (rw [hOA, hOB, wishes_b hI (by omega) em h75b]; exact ⟨h80.1, (hF1.tr hFW).tr h80.2⟩)
          | (rw [hOA, hOB, wishes_a (by rw [hRW.b6 hIW hnW, wishA_5 h8] at h75; exact h75)]; exact ⟨hRW, hF1.tr hFW⟩)
        have hIt : Inv (F_onB (F_onA g1 (nI n)) (nI n)) := Inv_onB (Inv_onA hI hn) (by rw [onA_lo hI h8 lo5]; exact hn)
        have hnt : n < tn ((F_onB (F_onA g1 (nI n)) (nI n)) 5) := by rw [onB_lo h8 lo5, onA_lo hI h8 lo5]; exact hn
        obtain ⟨hc1, hc2⟩ := onC_rel hRt hIt hnt
        refine V_aload_n hC kX1_sail_83 rfl ?_
        refine V_getI hC 0 4 lfX1_91 kX1_sail_84 (Nat.le_of_ble_eq_true rfl) (Nat.le_of_ble_eq_true rfl) rfl ?_
        refine V_if_le hC 100 kX1_sail_87 (by decide) (fun h87 => ?_) (fun h87 => ?_)
        · refine V_vret hC rfl kX1_sail_100 ?_
          refine ⟨by with_reducible rfl, ?_, ?_⟩
          · first
            | exact hc1 (Int32.not_lt.mpr h87)
            | exact hc2 (Int32.not_le.mp h87)
          · first
            | exact hFt
            | exact hFt.ups _ _ (by omega)
        · refine V_aload_n hC kX1_sail_90 rfl ?_
          refine V_dup hC kX1_sail_91 rfl ?_
          refine V_getI hC 0 4 lfX1_91 kX1_sail_92 (Nat.le_of_ble_eq_true rfl) (Nat.le_of_ble_eq_true rfl) rfl ?_
          refine V_iconst hC (1) kX1_sail_95 (by decide) ?_
          refine V_isub hC kX1_sail_96 ?_
          refine V_putI hC 0 4 lfX1_91 kX1_sail_97 (Nat.le_of_ble_eq_true rfl) (Nat.le_of_ble_eq_true rfl) rfl rfl ⟨rfl, rfl⟩ ?_
          refine V_vret hC rfl kX1_sail_100 ?_
          refine ⟨by with_reducible rfl, ?_, ?_⟩
          · first
            | exact hc1 (Int32.not_lt.mpr h87)
            | exact hc2 (Int32.not_le.mp h87)
          · first
            | exact hFt
            | exact hFt.ups _ _ (by omega)
      · refine V_aload_n hC kX1_sail_78 rfl ?_
        refine V_aload_n hC kX1_sail_79 rfl ?_
        have h75b := h75
        rw [hRW.b6 hIW hnW, wishA_5 h8] at h75b
        obtain ⟨m, hm, em⟩ := wished_m hI h8 h75b
        have hm2 : m < tn (F_wishA g1 (nI n) 4) := by rw [wishA_c h8 (by decide)]; exact hm
        refine V_cV_rV hC (cl_ask hWr hRW hIW hnW hm2 (by rw [wishA_4 h8, em])) mkX1_ask lmX1_202 kX1_sail_80 (Nat.le_of_ble_eq_true rfl) rfl rfl rfl (Nat.le_of_ble_eq_true rfl) ⟨(Nat.le_of_ble_eq_true rfl), (Nat.le_of_ble_eq_true rfl)⟩ ⟨rfl, rfl⟩ ⟨(Nat.le_of_ble_eq_true rfl), (Nat.le_of_ble_eq_true rfl)⟩ (fun g80 h80 => ?_)
        refine V_nameS (fun sg5 e_sg5 => ?_)
        obtain ⟨hRt, hFt⟩ : Rel sg5 c (F_onB (F_onA g1 (nI n)) (nI n)) ∧ Fr c sg sg5 := by
          subst e_sg5
          first
          | exact ⟨hRs, hFs⟩
          | (rw [hOA, hOB, wishes_b hI (by omega) em h75b]; exact ⟨h80.1, (hF1.tr hFW).tr h80.2⟩)
          | (rw [hOA, hOB, wishes_a (by rw [hRW.b6 hIW hnW, wishA_5 h8] at h75; exact h75)]; exact ⟨hRW, hF1.tr hFW⟩)
        have hIt : Inv (F_onB (F_onA g1 (nI n)) (nI n)) := Inv_onB (Inv_onA hI hn) (by rw [onA_lo hI h8 lo5]; exact hn)
        have hnt : n < tn ((F_onB (F_onA g1 (nI n)) (nI n)) 5) := by rw [onB_lo h8 lo5, onA_lo hI h8 lo5]; exact hn
        obtain ⟨hc1, hc2⟩ := onC_rel hRt hIt hnt
        refine V_aload_n hC kX1_sail_83 rfl ?_
        refine V_getI hC 0 4 lfX1_91 kX1_sail_84 (Nat.le_of_ble_eq_true rfl) (Nat.le_of_ble_eq_true rfl) rfl ?_
        refine V_if_le hC 100 kX1_sail_87 (by decide) (fun h87 => ?_) (fun h87 => ?_)
        · refine V_vret hC rfl kX1_sail_100 ?_
          refine ⟨by with_reducible rfl, ?_, ?_⟩
          · first
            | exact hc1 (Int32.not_lt.mpr h87)
            | exact hc2 (Int32.not_le.mp h87)
          · first
            | exact hFt
            | exact hFt.ups _ _ (by omega)
        · refine V_aload_n hC kX1_sail_90 rfl ?_
          refine V_dup hC kX1_sail_91 rfl ?_
          refine V_getI hC 0 4 lfX1_91 kX1_sail_92 (Nat.le_of_ble_eq_true rfl) (Nat.le_of_ble_eq_true rfl) rfl ?_
          refine V_iconst hC (1) kX1_sail_95 (by decide) ?_
          refine V_isub hC kX1_sail_96 ?_
          refine V_putI hC 0 4 lfX1_91 kX1_sail_97 (Nat.le_of_ble_eq_true rfl) (Nat.le_of_ble_eq_true rfl) rfl rfl ⟨rfl, rfl⟩ ?_
          refine V_vret hC rfl kX1_sail_100 ?_
          refine ⟨by with_reducible rfl, ?_, ?_⟩
          · first
            | exact hc1 (Int32.not_lt.mpr h87)
            | exact hc2 (Int32.not_le.mp h87)
          · first
            | exact hFt
            | exact hFt.ups _ _ (by omega)
    · refine V_aload_n hC kX1_sail_37 rfl ?_
      refine V_aload_n hC kX1_sail_38 rfl ?_
      refine V_cV_rV hC (cl_lose hWr hR hI hn) mkX1_lose lmX1_186 kX1_sail_39 (Nat.le_of_ble_eq_true rfl) rfl rfl rfl (Nat.le_of_ble_eq_true rfl) ⟨(Nat.le_of_ble_eq_true rfl), (Nat.le_of_ble_eq_true rfl)⟩ ⟨rfl, rfl⟩ ⟨(Nat.le_of_ble_eq_true rfl), (Nat.le_of_ble_eq_true rfl)⟩ (fun g39 h39 => ?_)
      have hRk := h39.1
      have hIk := Inv_drops hI hn
      have hnk : n < tn (F_drops g1 (nI n) 5) := by rw [drops_lo h8 lo5]; exact hn
      have h0k := drops_2 (g := g1) h8
      have hFk := hF1.tr h39.2
      rw [hR.b1 hI hn, hR.bright hI hk] at h34
      refine V_null hC kX1_sail_42 ?_
      refine V_astore_n hC [some _, some _, some _] kX1_sail_43 rfl (Nat.le_of_ble_eq_true rfl) ?_
      refine V_aload_n hC kX1_sail_44 rfl ?_
      refine V_ifnonnull hC 56 kX1_sail_45 (by decide) (fun _ hq => by cases hq) (fun _ => ?_)
      refine V_aload_n hC kX1_sail_48 rfl ?_
      refine V_aload_n hC kX1_sail_49 rfl ?_
      refine V_cV_rV hC (cl_seekKeeper hWr hRk hIk hnk h0k) mkX1_seekKeeper lmX1_189 kX1_sail_50 (Nat.le_of_ble_eq_true rfl) rfl rfl rfl (Nat.le_of_ble_eq_true rfl) ⟨(Nat.le_of_ble_eq_true rfl), (Nat.le_of_ble_eq_true rfl)⟩ ⟨rfl, rfl⟩ ⟨(Nat.le_of_ble_eq_true rfl), (Nat.le_of_ble_eq_true rfl)⟩ (fun g50 h50 => ?_)
      have hRs : Rel g50 c (F_onB (F_onA g1 (nI n)) (nI n)) := by
        first
        | (rw [onA_none ho, onB_find h0k]; exact h50.1)
        | (rw [onA_drop (by omega) ho (Int32.not_le.mp h34), onB_find h0k]; exact h50.1)
      have hFs := hFk.tr h50.2
      refine V_goto hC 83 kX1_sail_53 (by decide) ?_
      refine V_nameS (fun sg5 e_sg5 => ?_)
      obtain ⟨hRt, hFt⟩ : Rel sg5 c (F_onB (F_onA g1 (nI n)) (nI n)) ∧ Fr c sg sg5 := by
        subst e_sg5
        first
        | exact ⟨hRs, hFs⟩
        | (rw [hOA, hOB, wishes_b hI (by omega) em h75b]; exact ⟨h80.1, (hF1.tr hFW).tr h80.2⟩)
        | (rw [hOA, hOB, wishes_a (by rw [hRW.b6 hIW hnW, wishA_5 h8] at h75; exact h75)]; exact ⟨hRW, hF1.tr hFW⟩)
      have hIt : Inv (F_onB (F_onA g1 (nI n)) (nI n)) := Inv_onB (Inv_onA hI hn) (by rw [onA_lo hI h8 lo5]; exact hn)
      have hnt : n < tn ((F_onB (F_onA g1 (nI n)) (nI n)) 5) := by rw [onB_lo h8 lo5, onA_lo hI h8 lo5]; exact hn
      obtain ⟨hc1, hc2⟩ := onC_rel hRt hIt hnt
      refine V_aload_n hC kX1_sail_83 rfl ?_
      refine V_getI hC 0 4 lfX1_91 kX1_sail_84 (Nat.le_of_ble_eq_true rfl) (Nat.le_of_ble_eq_true rfl) rfl ?_
      refine V_if_le hC 100 kX1_sail_87 (by decide) (fun h87 => ?_) (fun h87 => ?_)
      · refine V_vret hC rfl kX1_sail_100 ?_
        refine ⟨by with_reducible rfl, ?_, ?_⟩
        · first
          | exact hc1 (Int32.not_lt.mpr h87)
          | exact hc2 (Int32.not_le.mp h87)
        · first
          | exact hFt
          | exact hFt.ups _ _ (by omega)
      · refine V_aload_n hC kX1_sail_90 rfl ?_
        refine V_dup hC kX1_sail_91 rfl ?_
        refine V_getI hC 0 4 lfX1_91 kX1_sail_92 (Nat.le_of_ble_eq_true rfl) (Nat.le_of_ble_eq_true rfl) rfl ?_
        refine V_iconst hC (1) kX1_sail_95 (by decide) ?_
        refine V_isub hC kX1_sail_96 ?_
        refine V_putI hC 0 4 lfX1_91 kX1_sail_97 (Nat.le_of_ble_eq_true rfl) (Nat.le_of_ble_eq_true rfl) rfl rfl ⟨rfl, rfl⟩ ?_
        refine V_vret hC rfl kX1_sail_100 ?_
        refine ⟨by with_reducible rfl, ?_, ?_⟩
        · first
          | exact hc1 (Int32.not_lt.mpr h87)
          | exact hc2 (Int32.not_le.mp h87)
        · first
          | exact hFt
          | exact hFt.ups _ _ (by omega)
def mtX1_pass : Mt := (yX1_pass, cX1_pass, 5, none, 5, 108, 0, 0)
theorem kX1_pass_0 : Dk mtX1_pass 0 (.iconst 0) 1 1 := ⟨by decide +kernel, rfl⟩
theorem kX1_pass_1 : Dk mtX1_pass 1 (.istore_n 2) 1 2 := ⟨by decide +kernel, rfl⟩
theorem kX1_pass_2 : Dk mtX1_pass 2 (.iload_n 2) 1 3 := ⟨by decide +kernel, rfl⟩
theorem kX1_pass_3 : Dk mtX1_pass 3 (.iload_n 1) 1 4 := ⟨by decide +kernel, rfl⟩
theorem kX1_pass_4 : Dk mtX1_pass 4 (.if_icmp .ge 53) 3 7 := ⟨by decide +kernel, rfl⟩
theorem kX1_pass_7 : Dk mtX1_pass 7 (.aload_n 0) 1 8 := ⟨by decide +kernel, rfl⟩
theorem kX1_pass_8 : Dk mtX1_pass 8 (.dup) 1 9 := ⟨by decide +kernel, rfl⟩
theorem kX1_pass_9 : Dk mtX1_pass 9 (.getfield 44) 3 12 := ⟨by decide +kernel, rfl⟩
theorem kX1_pass_12 : Dk mtX1_pass 12 (.iconst 1) 1 13 := ⟨by decide +kernel, rfl⟩
theorem kX1_pass_13 : Dk mtX1_pass 13 (.iadd) 1 14 := ⟨by decide +kernel, rfl⟩
theorem kX1_pass_14 : Dk mtX1_pass 14 (.putfield 44) 3 17 := ⟨by decide +kernel, rfl⟩
theorem kX1_pass_17 : Dk mtX1_pass 17 (.iconst 0) 1 18 := ⟨by decide +kernel, rfl⟩
theorem kX1_pass_18 : Dk mtX1_pass 18 (.istore_n 3) 1 19 := ⟨by decide +kernel, rfl⟩
theorem kX1_pass_19 : Dk mtX1_pass 19 (.iload_n 3) 1 20 := ⟨by decide +kernel, rfl⟩
theorem kX1_pass_20 : Dk mtX1_pass 20 (.aload_n 0) 1 21 := ⟨by decide +kernel, rfl⟩
theorem kX1_pass_21 : Dk mtX1_pass 21 (.getfield 41) 3 24 := ⟨by decide +kernel, rfl⟩
theorem kX1_pass_24 : Dk mtX1_pass 24 (.if_icmp .ge 27) 3 27 := ⟨by decide +kernel, rfl⟩
theorem kX1_pass_27 : Dk mtX1_pass 27 (.aload_n 0) 1 28 := ⟨by decide +kernel, rfl⟩
theorem kX1_pass_28 : Dk mtX1_pass 28 (.iload_n 3) 1 29 := ⟨by decide +kernel, rfl⟩
theorem kX1_pass_29 : Dk mtX1_pass 29 (.invokevirtual 70) 3 32 := ⟨by decide +kernel, rfl⟩
theorem kX1_pass_32 : Dk mtX1_pass 32 (.astore 4) 2 34 := ⟨by decide +kernel, rfl⟩
theorem kX1_pass_34 : Dk mtX1_pass 34 (.aload 4) 2 36 := ⟨by decide +kernel, rfl⟩
theorem kX1_pass_36 : Dk mtX1_pass 36 (.ifnull 9) 3 39 := ⟨by decide +kernel, rfl⟩
theorem kX1_pass_39 : Dk mtX1_pass 39 (.aload_n 0) 1 40 := ⟨by decide +kernel, rfl⟩
theorem kX1_pass_40 : Dk mtX1_pass 40 (.aload 4) 2 42 := ⟨by decide +kernel, rfl⟩
theorem kX1_pass_42 : Dk mtX1_pass 42 (.invokevirtual 180) 3 45 := ⟨by decide +kernel, rfl⟩
theorem kX1_pass_45 : Dk mtX1_pass 45 (.iinc 3 1) 3 48 := ⟨by decide +kernel, rfl⟩
theorem kX1_pass_48 : Dk mtX1_pass 48 (.goto (-29)) 3 51 := ⟨by decide +kernel, rfl⟩
theorem kX1_pass_51 : Dk mtX1_pass 51 (.iinc 2 1) 3 54 := ⟨by decide +kernel, rfl⟩
theorem kX1_pass_54 : Dk mtX1_pass 54 (.goto (-52)) 3 57 := ⟨by decide +kernel, rfl⟩
theorem kX1_pass_57 : Dk mtX1_pass 57 (.return_) 1 58 := ⟨by decide +kernel, rfl⟩
theorem lmX1_180 : LkM RX1 180 mtX1_sail := Or.inl (by decide +kernel)
theorem mkX1_sail : MkV mtX1_sail 1 := ⟨List.mem_of_getElem? (i := 533) (by decide +kernel), by decide +kernel, by decide +kernel, by decide +kernel, ⟨by decide +kernel, by decide +kernel, by decide +kernel⟩⟩
set_option maxHeartbeats 4000000 in
set_option maxRecDepth 100000 in
theorem cl_pass {l : Launch} {w : Wd} {sg : Sg} (hWr : Wr w) {c : Nat} {g : Gs} (hR : Rel sg c g) (hI : Inv g) {N : Nat} (hN : N < 1000) : M l mtX1_pass w [vR (some (1, 0, c)), vI (nI N)] sg (rV (fun sg2 => Rel sg2 c (F_ticks g N) ∧ Fr c sg sg2)) := by
  refine M_of [some (vR (some (1, 0, c))), some (vI (nI N)), none, none, none] rfl (Nat.le_of_ble_eq_true rfl) (by decide +kernel) ?_
  intro p_ e_ s_ m_ args_ below_ meth_ c_ hC hO
  refine V_iconst hC (0) kX1_pass_0 (by decide) ?_
  refine V_istore_n hC [some _, some _, some _, none, none] kX1_pass_1 rfl (Nat.le_of_ble_eq_true rfl) ?_
  refine V_loopR N (fun i a => Rel a c (F_ticks g i) ∧ Fr c sg a) (fun i _ => [some (vR (some (1, 0, c))), some (vI (nI N)), some (vI (nI i)), none, none]) (fun _ a => a) sg rfl rfl ⟨hR, Fr.rf c sg⟩ (fun a ha => ?_) (fun i a hi ha ih => ?_)
  · refine V_iload_n hC kX1_pass_2 rfl ?_
    refine V_iload_n hC kX1_pass_3 rfl ?_
    refine V_icmp_ge hC 57 kX1_pass_4 (by decide) (fun h4 => ?_) (fun h4 => absurd h4 (not_not_intro (Int32.le_refl _)))
    refine V_vret hC rfl kX1_pass_57 ?_
    exact ⟨by with_reducible rfl, ha⟩
  · obtain ⟨hIi, hlo⟩ := Inv_ticks hI i
    refine V_iload_n hC kX1_pass_2 rfl ?_
    refine V_iload_n hC kX1_pass_3 rfl ?_
    refine V_icmp_ge hC 57 kX1_pass_4 (by decide) (fun h4 => absurd h4 (nI_ge hi (by omega))) (fun h4 => ?_)
    refine V_aload_n hC kX1_pass_7 rfl ?_
    refine V_dup hC kX1_pass_8 rfl ?_
    refine V_getI hC 1 5 lfX1_44 kX1_pass_9 (Nat.le_of_ble_eq_true rfl) (Nat.le_of_ble_eq_true rfl) rfl ?_
    refine V_iconst hC (1) kX1_pass_12 (by decide) ?_
    refine V_iadd hC kX1_pass_13 ?_
    refine V_putI hC 1 5 lfX1_44 kX1_pass_14 (Nat.le_of_ble_eq_true rfl) (Nat.le_of_ble_eq_true rfl) rfl rfl ⟨rfl, rfl⟩ ?_
    refine V_nameS (fun a1 e_a1 => ?_)
    have hR1 : Rel a1 c (F_tickN (F_ticks g i) 0) := by
      rw [e_a1, F_tickN, F_inc]
      have h := ha.1.putC' hIi.cn 5 (a c 5 + 1) (by decide)
      rw [ha.1.c5] at h ⊢
      exact h
    have hF1 : Fr c sg a1 := by
      rw [e_a1]
      exact ha.2.ups _ _ (by omega)
    refine V_iconst hC (0) kX1_pass_17 (by decide) ?_
    refine V_istore_n hC [some _, some _, some _, some _, none] kX1_pass_18 rfl (Nat.le_of_ble_eq_true rfl) ?_
    refine V_loopR (tn (g 5)) (fun j b => Rel b c (F_tickN (F_ticks g i) j) ∧ Fr c sg b) (fun j _ => [some (vR (some (1, 0, c))), some (vI (nI N)), some (vI (nI i)), some (vI (nI j)), none]) (fun _ b => b) a1 rfl rfl ⟨hR1, hF1⟩ (fun b hb => ?_) (fun j b hj hb ihj => ?_)
    · have hjI := Inv_tickN hIi (tn (g 5)) (by rw [hlo 5 lo5]; exact Nat.le_refl _)
      have e5 : b c 4 = g 5 := by rw [hb.1.c4, hjI.2 5 lo5, hlo 5 lo5]
      refine V_iload_n hC kX1_pass_19 rfl ?_
      refine V_aload_n hC kX1_pass_20 rfl ?_
      refine V_getI hC 1 4 lfX1_41 kX1_pass_21 (Nat.le_of_ble_eq_true rfl) (Nat.le_of_ble_eq_true rfl) rfl ?_
      refine V_icmp_ge hC 51 kX1_pass_24 (by decide) (fun h24 => ?_) (fun h24 => absurd h24 (not_not_intro (by rw [e5]; exact cnt_le hI.hc5.1)))
      refine V_iinc hC (_ + 1) [some _, some _, some _, some _, none] kX1_pass_51 rfl rfl rfl (Nat.le_of_ble_eq_true rfl) ?_
      refine V_goto hC 2 kX1_pass_54 (by decide) ?_
      refine V_drop 3 [_, _, _, none, _] rfl ?_
      refine V_eq (by rw [nI_succ]) rfl (ih _ ⟨?_, hb.2⟩)
      have := hb.1
      rw [← hlo 5 lo5] at this
      exact this
    · obtain ⟨hjI, hjl⟩ := Inv_tickN hIi j (by rw [hlo 5 lo5]; omega)
      have e5 : b c 4 = g 5 := by rw [hb.1.c4, hjl 5 lo5, hlo 5 lo5]
      have hjn : j < tn (F_tickN (F_ticks g i) j 5) := by rw [hjl 5 lo5, hlo 5 lo5]; exact hj
      refine V_iload_n hC kX1_pass_19 rfl ?_
      refine V_aload_n hC kX1_pass_20 rfl ?_
      refine V_getI hC 1 4 lfX1_41 kX1_pass_21 (Nat.le_of_ble_eq_true rfl) (Nat.le_of_ble_eq_true rfl) rfl ?_
      refine V_icmp_ge hC 51 kX1_pass_24 (by decide) (fun h24 => absurd h24 (by rw [e5]; exact cnt_lt hI.hc5.1 hj)) (fun h24 => ?_)
      refine V_aload_n hC kX1_pass_27 rfl ?_
      refine V_iload_n hC kX1_pass_28 rfl ?_
      refine V_cV_fR hC (cl_boatR hWr hb.1 hjI hjn) mkX1_boatAt lmX1_70 kX1_pass_29 (Nat.le_of_ble_eq_true rfl) rfl rfl rfl (Nat.le_of_ble_eq_true rfl) ⟨(Nat.le_of_ble_eq_true rfl), (Nat.le_of_ble_eq_true rfl)⟩ ⟨rfl, rfl⟩ ⟨(Nat.le_of_ble_eq_true rfl), (Nat.le_of_ble_eq_true rfl)⟩ ?_
      refine V_astore hC [some _, some _, some _, some _, some _] kX1_pass_32 rfl (Nat.le_of_ble_eq_true rfl) ?_
      refine V_aload hC kX1_pass_34 rfl ?_
      refine V_ifnull hC 45 kX1_pass_36 (by decide) (fun hq => by cases hq) (fun _ _ => ?_)
      refine V_aload_n hC kX1_pass_39 rfl ?_
      refine V_aload hC kX1_pass_40 rfl ?_
      refine V_cV_rV hC (cl_sail hWr hb.1 hjI hjn) mkX1_sail lmX1_180 kX1_pass_42 (Nat.le_of_ble_eq_true rfl) rfl rfl rfl (Nat.le_of_ble_eq_true rfl) ⟨(Nat.le_of_ble_eq_true rfl), (Nat.le_of_ble_eq_true rfl)⟩ ⟨rfl, rfl⟩ ⟨(Nat.le_of_ble_eq_true rfl), (Nat.le_of_ble_eq_true rfl)⟩ (fun g42 h42 => ?_)
      refine V_iinc hC (_ + 1) [some _, some _, some _, some _, some _] kX1_pass_45 rfl rfl rfl (Nat.le_of_ble_eq_true rfl) ?_
      refine V_goto hC 19 kX1_pass_48 (by decide) ?_
      refine V_drop 4 [_, _, _, _, none] rfl ?_
      refine V_eq (by rw [nI_succ]) rfl (ihj _ ⟨?_, hb.2.tr h42.2⟩)
      rw [F_tickN]
      exact h42.1

