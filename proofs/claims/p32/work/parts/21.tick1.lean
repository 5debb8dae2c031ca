-- HOW cl_isPlace fI
-- HOW cl_isSpeed fI
-- HOW cl_isStrength fI
-- HOW cl_isTickCount fI
-- HOW cl_isSetting fI
-- HOW cl_isSlot fI
-- HOW cl_isSettingValue fI
-- HOW cl_shown fI
-- HOW cl_lbegin fV
-- HOW cl_lcopy fV
-- HOW cl_bcopy fV
-- HOW cl_lnum fI
-- HOW cl_bnum fI
-- HOW cl_bright fI
-- HOW cl_worth fI
-- HOW cl_bitCount fI
-- HOW cl_servedCount fI
-- HOW cl_takesHandedOn fI
-- HOW cl_takesOthers fI
-- HOW cl_bbegin fV
-- HOW cl_move fV
-- HOW cl_wishFor fV
-- HOW cl_lightR fR
-- HOW cl_lightN fR
-- HOW cl_boatR fR
-- HOW cl_boatN fR
-- HOW cl_setR fI
-- HOW cl_lightAt fR
-- HOW cl_lightAtNo fR
-- HOW cl_boatAt fR
-- HOW cl_boatAtNo fR
-- HOW cl_settingOf fI
-- HOW cl_servedBoats fI
-- HOW cl_talkingBoats fI
-- HOW cl_numberOf fI
-- HOW cl_brightest fI
-- HOW cl_isDark fI
-- HOW cl_freePlaces fI
-- HOW cl_lightFault fI
-- HOW cl_boatFault fI
-- HOW cl_steerFault fI
-- HOW cl_dimFault fI
-- HOW cl_leanFault fI
-- HOW cl_talkFault fI
-- HOW cl_putSpeed rI
-- HOW cl_putTalk rI
-- HOW cl_putLeaning rI
-- HOW cl_putStrength rI
-- HOW cl_putSetting rI
-- HOW cl_addLight rI
-- HOW cl_addBoat rI
-- HOW cl_tryLight rI
-- HOW cl_tryBoat rI
-- HOW cl_trySteer rI
-- HOW cl_tryTalk rI
-- HOW cl_tryLean rI
-- HOW cl_tryDim rI
-- HOW cl_serve rV
-- HOW cl_lose rV
-- HOW cl_bestWish fI
-- HOW cl_seekKeeper rV
-- HOW cl_ask rV
/-! the class: a tick -/
def mtX1_serve : Mt := (yX1_serve, cX1_serve, 5, none, 1, 21, 0, 0)
theorem kX1_serve_0 : Dk mtX1_serve 0 (.aload_n 0) 1 1 := ⟨by decide +kernel, rfl⟩
theorem kX1_serve_1 : Dk mtX1_serve 1 (.aload_n 1) 1 2 := ⟨by decide +kernel, rfl⟩
theorem kX1_serve_2 : Dk mtX1_serve 2 (.getfield 88) 3 5 := ⟨by decide +kernel, rfl⟩
theorem kX1_serve_5 : Dk mtX1_serve 5 (.invokevirtual 62) 3 8 := ⟨by decide +kernel, rfl⟩
theorem kX1_serve_8 : Dk mtX1_serve 8 (.astore_n 3) 1 9 := ⟨by decide +kernel, rfl⟩
theorem kX1_serve_9 : Dk mtX1_serve 9 (.aload_n 3) 1 10 := ⟨by decide +kernel, rfl⟩
theorem kX1_serve_10 : Dk mtX1_serve 10 (.ifnull 18) 3 13 := ⟨by decide +kernel, rfl⟩
theorem kX1_serve_13 : Dk mtX1_serve 13 (.aload_n 3) 1 14 := ⟨by decide +kernel, rfl⟩
theorem kX1_serve_14 : Dk mtX1_serve 14 (.dup) 1 15 := ⟨by decide +kernel, rfl⟩
theorem kX1_serve_15 : Dk mtX1_serve 15 (.getfield 230) 3 18 := ⟨by decide +kernel, rfl⟩
theorem kX1_serve_18 : Dk mtX1_serve 18 (.aload_n 1) 1 19 := ⟨by decide +kernel, rfl⟩
theorem kX1_serve_19 : Dk mtX1_serve 19 (.getfield 233) 3 22 := ⟨by decide +kernel, rfl⟩
theorem kX1_serve_22 : Dk mtX1_serve 22 (.iconst (-1)) 1 23 := ⟨by decide +kernel, rfl⟩
theorem kX1_serve_23 : Dk mtX1_serve 23 (.ixor) 1 24 := ⟨by decide +kernel, rfl⟩
theorem kX1_serve_24 : Dk mtX1_serve 24 (.iand) 1 25 := ⟨by decide +kernel, rfl⟩
theorem kX1_serve_25 : Dk mtX1_serve 25 (.putfield 230) 3 28 := ⟨by decide +kernel, rfl⟩
theorem kX1_serve_28 : Dk mtX1_serve 28 (.aload_n 0) 1 29 := ⟨by decide +kernel, rfl⟩
theorem kX1_serve_29 : Dk mtX1_serve 29 (.iload_n 2) 1 30 := ⟨by decide +kernel, rfl⟩
theorem kX1_serve_30 : Dk mtX1_serve 30 (.invokevirtual 62) 3 33 := ⟨by decide +kernel, rfl⟩
theorem kX1_serve_33 : Dk mtX1_serve 33 (.astore 4) 2 35 := ⟨by decide +kernel, rfl⟩
theorem kX1_serve_35 : Dk mtX1_serve 35 (.aload 4) 2 37 := ⟨by decide +kernel, rfl⟩
theorem kX1_serve_37 : Dk mtX1_serve 37 (.ifnull 17) 3 40 := ⟨by decide +kernel, rfl⟩
theorem kX1_serve_40 : Dk mtX1_serve 40 (.aload 4) 2 42 := ⟨by decide +kernel, rfl⟩
theorem kX1_serve_42 : Dk mtX1_serve 42 (.dup) 1 43 := ⟨by decide +kernel, rfl⟩
theorem kX1_serve_43 : Dk mtX1_serve 43 (.getfield 230) 3 46 := ⟨by decide +kernel, rfl⟩
theorem kX1_serve_46 : Dk mtX1_serve 46 (.aload_n 1) 1 47 := ⟨by decide +kernel, rfl⟩
theorem kX1_serve_47 : Dk mtX1_serve 47 (.getfield 233) 3 50 := ⟨by decide +kernel, rfl⟩
theorem kX1_serve_50 : Dk mtX1_serve 50 (.ior) 1 51 := ⟨by decide +kernel, rfl⟩
theorem kX1_serve_51 : Dk mtX1_serve 51 (.putfield 230) 3 54 := ⟨by decide +kernel, rfl⟩
theorem kX1_serve_54 : Dk mtX1_serve 54 (.aload_n 1) 1 55 := ⟨by decide +kernel, rfl⟩
theorem kX1_serve_55 : Dk mtX1_serve 55 (.iload_n 2) 1 56 := ⟨by decide +kernel, rfl⟩
theorem kX1_serve_56 : Dk mtX1_serve 56 (.putfield 88) 3 59 := ⟨by decide +kernel, rfl⟩
theorem kX1_serve_59 : Dk mtX1_serve 59 (.return_) 1 60 := ⟨by decide +kernel, rfl⟩
theorem lfX1_230 : LkF RX1 230 2 7 := Or.inr (by decide +kernel)
theorem lfX1_233 : LkF RX1 233 0 0 := Or.inr (by decide +kernel)
set_option maxHeartbeats 4000000 in
set_option maxRecDepth 100000 in
theorem cl_serve {l : Launch} {w : Wd} {sg : Sg} (hWr : Wr w) {c : Nat} {g : Gs} (hR : Rel sg c g) (hI : Inv g) {n : Nat} (hn : n < tn (g 5)) (a : Int32) (ha : a = -1 ∨ ∃ m, m < tn (g 4) ∧ a = nI m) : M l mtX1_serve w [vR (some (1, 0, c)), vR (some (0, 0, c + 9 + n)), vI a] sg (rV (fun sg2 => Rel sg2 c (pB g (nI n) 2 (a + 1)) ∧ Fr c sg sg2)) := by
  refine M_of [some (vR (some (1, 0, c))), some (vR (some (0, 0, c + 9 + n))), some (vI a), none, none] rfl (Nat.le_of_ble_eq_true rfl) (by decide +kernel) ?_
  intro p_ e_ s_ m_ args_ below_ meth_ c_ hC hO
  have h5x := hI.c5.1
  have h4x := hI.c4.1
  have hby : gB g (nI n) 2 = 0 ∨ ∃ k, k < tn (g 4) ∧ gB g (nI n) 2 = nI k + 1 := by
    rcases hI.by hn with e | ⟨k, h1, h2⟩
    · exact Or.inl (by grind)
    · exact Or.inr ⟨k, h1, by grind⟩
  rcases hby with ho | ⟨k, hk, ho⟩ <;> rcases ha with rfl | ⟨m, hm, rfl⟩
  · refine V_aload_n hC kX1_serve_0 rfl ?_
    refine V_aload_n hC kX1_serve_1 rfl ?_
    refine V_getI hC 0 3 lfX1_88 kX1_serve_2 (Nat.le_of_ble_eq_true rfl) (Nat.le_of_ble_eq_true rfl) rfl ?_
    rw [hR.b3 hI hn, ho]
    refine V_cV_fR hC (cl_lightN hWr hR (Or.inl (by decide))) mkX1_lightAt lmX1_62 kX1_serve_5 (Nat.le_of_ble_eq_true rfl) rfl rfl rfl (Nat.le_of_ble_eq_true rfl) ⟨(Nat.le_of_ble_eq_true rfl), (Nat.le_of_ble_eq_true rfl)⟩ ⟨rfl, rfl⟩ ⟨(Nat.le_of_ble_eq_true rfl), (Nat.le_of_ble_eq_true rfl)⟩ ?_
    refine V_astore_n hC [some _, some _, some _, some _, none] kX1_serve_8 rfl (Nat.le_of_ble_eq_true rfl) ?_
    refine V_aload_n hC kX1_serve_9 rfl ?_
    refine V_ifnull hC 28 kX1_serve_10 (by decide) (fun _ => ?_) (fun _ hq => by cases hq)
    refine V_aload_n hC kX1_serve_28 rfl ?_
    refine V_iload_n hC kX1_serve_29 rfl ?_
    refine V_cV_fR hC (cl_lightAtNo hWr _ (Or.inl (by decide))) mkX1_lightAt lmX1_62 kX1_serve_30 (Nat.le_of_ble_eq_true rfl) rfl rfl rfl (Nat.le_of_ble_eq_true rfl) ⟨(Nat.le_of_ble_eq_true rfl), (Nat.le_of_ble_eq_true rfl)⟩ ⟨rfl, rfl⟩ ⟨(Nat.le_of_ble_eq_true rfl), (Nat.le_of_ble_eq_true rfl)⟩ ?_
    refine V_astore hC [some _, some _, some _, some _, some _] kX1_serve_33 rfl (Nat.le_of_ble_eq_true rfl) ?_
    refine V_aload hC kX1_serve_35 rfl ?_
    refine V_ifnull hC 54 kX1_serve_37 (by decide) (fun _ => ?_) (fun _ hq => by cases hq)
    refine V_aload_n hC kX1_serve_54 rfl ?_
    refine V_iload_n hC kX1_serve_55 rfl ?_
    refine V_putI hC 0 3 lfX1_88 kX1_serve_56 (Nat.le_of_ble_eq_true rfl) (Nat.le_of_ble_eq_true rfl) rfl rfl ⟨rfl, rfl⟩ ?_
    refine V_vret hC rfl kX1_serve_59 ?_
    refine ⟨by with_reducible rfl, ?_, (Fr.rf c sg).ups _ _ (by have := hI.c5.1; omega)⟩
    rw [show (-1 : Int32) + 1 = 0 from rfl]
    exact hR.sv00 hI hn ho
  · refine V_aload_n hC kX1_serve_0 rfl ?_
    refine V_aload_n hC kX1_serve_1 rfl ?_
    refine V_getI hC 0 3 lfX1_88 kX1_serve_2 (Nat.le_of_ble_eq_true rfl) (Nat.le_of_ble_eq_true rfl) rfl ?_
    rw [hR.b3 hI hn, ho]
    refine V_cV_fR hC (cl_lightN hWr hR (Or.inl (by decide))) mkX1_lightAt lmX1_62 kX1_serve_5 (Nat.le_of_ble_eq_true rfl) rfl rfl rfl (Nat.le_of_ble_eq_true rfl) ⟨(Nat.le_of_ble_eq_true rfl), (Nat.le_of_ble_eq_true rfl)⟩ ⟨rfl, rfl⟩ ⟨(Nat.le_of_ble_eq_true rfl), (Nat.le_of_ble_eq_true rfl)⟩ ?_
    refine V_astore_n hC [some _, some _, some _, some _, none] kX1_serve_8 rfl (Nat.le_of_ble_eq_true rfl) ?_
    refine V_aload_n hC kX1_serve_9 rfl ?_
    refine V_ifnull hC 28 kX1_serve_10 (by decide) (fun _ => ?_) (fun _ hq => by cases hq)
    refine V_aload_n hC kX1_serve_28 rfl ?_
    refine V_iload_n hC kX1_serve_29 rfl ?_
    refine V_cV_fR hC (cl_lightAt hWr rfl (by have := hI.c4.1; omega) (by rw [hR.c3, hI.c4.2]; exact (nI_ltI (by have := hI.c4.1; omega) (by have := hI.c4.1; omega)).mpr hm)) mkX1_lightAt lmX1_62 kX1_serve_30 (Nat.le_of_ble_eq_true rfl) rfl rfl rfl (Nat.le_of_ble_eq_true rfl) ⟨(Nat.le_of_ble_eq_true rfl), (Nat.le_of_ble_eq_true rfl)⟩ ⟨rfl, rfl⟩ ⟨(Nat.le_of_ble_eq_true rfl), (Nat.le_of_ble_eq_true rfl)⟩ ?_
    refine V_astore hC [some _, some _, some _, some _, some _] kX1_serve_33 rfl (Nat.le_of_ble_eq_true rfl) ?_
    refine V_aload hC kX1_serve_35 rfl ?_
    refine V_ifnull hC 54 kX1_serve_37 (by decide) (fun hq => by cases hq) (fun _ _ => ?_)
    refine V_aload hC kX1_serve_40 rfl ?_
    refine V_dup hC kX1_serve_42 rfl ?_
    refine V_getI hC 2 7 lfX1_230 kX1_serve_43 (Nat.le_of_ble_eq_true rfl) (Nat.le_of_ble_eq_true rfl) rfl ?_
    refine V_aload_n hC kX1_serve_46 rfl ?_
    refine V_getI hC 0 0 lfX1_233 kX1_serve_47 (Nat.le_of_ble_eq_true rfl) (Nat.le_of_ble_eq_true rfl) rfl ?_
    refine V_ior hC kX1_serve_50 ?_
    refine V_putI hC 2 7 lfX1_230 kX1_serve_51 (Nat.le_of_ble_eq_true rfl) (Nat.le_of_ble_eq_true rfl) rfl rfl ⟨rfl, rfl⟩ ?_
    refine V_aload_n hC kX1_serve_54 rfl ?_
    refine V_iload_n hC kX1_serve_55 rfl ?_
    refine V_putI hC 0 3 lfX1_88 kX1_serve_56 (Nat.le_of_ble_eq_true rfl) (Nat.le_of_ble_eq_true rfl) rfl rfl ⟨rfl, rfl⟩ ?_
    refine V_vret hC rfl kX1_serve_59 ?_
    refine ⟨by with_reducible rfl, ?_, ((Fr.rf c sg).ups _ _ (by have := hI.c4.1; omega)).ups _ _ (by have := hI.c5.1; omega)⟩
    exact hR.sv01 hI hn hm ho
  · refine V_aload_n hC kX1_serve_0 rfl ?_
    refine V_aload_n hC kX1_serve_1 rfl ?_
    refine V_getI hC 0 3 lfX1_88 kX1_serve_2 (Nat.le_of_ble_eq_true rfl) (Nat.le_of_ble_eq_true rfl) rfl ?_
    rw [hR.b3 hI hn, ho, sub1]
    refine V_cV_fR hC (cl_lightR hWr hR hI hk) mkX1_lightAt lmX1_62 kX1_serve_5 (Nat.le_of_ble_eq_true rfl) rfl rfl rfl (Nat.le_of_ble_eq_true rfl) ⟨(Nat.le_of_ble_eq_true rfl), (Nat.le_of_ble_eq_true rfl)⟩ ⟨rfl, rfl⟩ ⟨(Nat.le_of_ble_eq_true rfl), (Nat.le_of_ble_eq_true rfl)⟩ ?_
    refine V_astore_n hC [some _, some _, some _, some _, none] kX1_serve_8 rfl (Nat.le_of_ble_eq_true rfl) ?_
    refine V_aload_n hC kX1_serve_9 rfl ?_
    refine V_ifnull hC 28 kX1_serve_10 (by decide) (fun hq => by cases hq) (fun _ _ => ?_)
    refine V_aload_n hC kX1_serve_13 rfl ?_
    refine V_dup hC kX1_serve_14 rfl ?_
    refine V_getI hC 2 7 lfX1_230 kX1_serve_15 (Nat.le_of_ble_eq_true rfl) (Nat.le_of_ble_eq_true rfl) rfl ?_
    refine V_aload_n hC kX1_serve_18 rfl ?_
    refine V_getI hC 0 0 lfX1_233 kX1_serve_19 (Nat.le_of_ble_eq_true rfl) (Nat.le_of_ble_eq_true rfl) rfl ?_
    refine V_iconst hC (-1) kX1_serve_22 (by decide) ?_
    refine V_ixor hC kX1_serve_23 ?_
    refine V_iand hC kX1_serve_24 ?_
    refine V_putI hC 2 7 lfX1_230 kX1_serve_25 (Nat.le_of_ble_eq_true rfl) (Nat.le_of_ble_eq_true rfl) rfl rfl ⟨rfl, rfl⟩ ?_
    refine V_aload_n hC kX1_serve_28 rfl ?_
    refine V_iload_n hC kX1_serve_29 rfl ?_
    refine V_cV_fR hC (cl_lightAtNo hWr _ (Or.inl (by decide))) mkX1_lightAt lmX1_62 kX1_serve_30 (Nat.le_of_ble_eq_true rfl) rfl rfl rfl (Nat.le_of_ble_eq_true rfl) ⟨(Nat.le_of_ble_eq_true rfl), (Nat.le_of_ble_eq_true rfl)⟩ ⟨rfl, rfl⟩ ⟨(Nat.le_of_ble_eq_true rfl), (Nat.le_of_ble_eq_true rfl)⟩ ?_
    refine V_astore hC [some _, some _, some _, some _, some _] kX1_serve_33 rfl (Nat.le_of_ble_eq_true rfl) ?_
    refine V_aload hC kX1_serve_35 rfl ?_
    refine V_ifnull hC 54 kX1_serve_37 (by decide) (fun _ => ?_) (fun _ hq => by cases hq)
    refine V_aload_n hC kX1_serve_54 rfl ?_
    refine V_iload_n hC kX1_serve_55 rfl ?_
    refine V_putI hC 0 3 lfX1_88 kX1_serve_56 (Nat.le_of_ble_eq_true rfl) (Nat.le_of_ble_eq_true rfl) rfl rfl ⟨rfl, rfl⟩ ?_
    refine V_vret hC rfl kX1_serve_59 ?_
    refine ⟨by with_reducible rfl, ?_, ((Fr.rf c sg).ups _ _ (by have := hI.c4.1; omega)).ups _ _ (by have := hI.c5.1; omega)⟩
    rw [show (-1 : Int32) + 1 = 0 from rfl]
    exact hR.sv10 hI hn hk ho
  · refine V_aload_n hC kX1_serve_0 rfl ?_
    refine V_aload_n hC kX1_serve_1 rfl ?_
    refine V_getI hC 0 3 lfX1_88 kX1_serve_2 (Nat.le_of_ble_eq_true rfl) (Nat.le_of_ble_eq_true rfl) rfl ?_
    rw [hR.b3 hI hn, ho, sub1]
    refine V_cV_fR hC (cl_lightR hWr hR hI hk) mkX1_lightAt lmX1_62 kX1_serve_5 (Nat.le_of_ble_eq_true rfl) rfl rfl rfl (Nat.le_of_ble_eq_true rfl) ⟨(Nat.le_of_ble_eq_true rfl), (Nat.le_of_ble_eq_true rfl)⟩ ⟨rfl, rfl⟩ ⟨(Nat.le_of_ble_eq_true rfl), (Nat.le_of_ble_eq_true rfl)⟩ ?_
    refine V_astore_n hC [some _, some _, some _, some _, none] kX1_serve_8 rfl (Nat.le_of_ble_eq_true rfl) ?_
    refine V_aload_n hC kX1_serve_9 rfl ?_
    refine V_ifnull hC 28 kX1_serve_10 (by decide) (fun hq => by cases hq) (fun _ _ => ?_)
    refine V_aload_n hC kX1_serve_13 rfl ?_
    refine V_dup hC kX1_serve_14 rfl ?_
    refine V_getI hC 2 7 lfX1_230 kX1_serve_15 (Nat.le_of_ble_eq_true rfl) (Nat.le_of_ble_eq_true rfl) rfl ?_
    refine V_aload_n hC kX1_serve_18 rfl ?_
    refine V_getI hC 0 0 lfX1_233 kX1_serve_19 (Nat.le_of_ble_eq_true rfl) (Nat.le_of_ble_eq_true rfl) rfl ?_
    refine V_iconst hC (-1) kX1_serve_22 (by decide) ?_
    refine V_ixor hC kX1_serve_23 ?_
    refine V_iand hC kX1_serve_24 ?_
    refine V_putI hC 2 7 lfX1_230 kX1_serve_25 (Nat.le_of_ble_eq_true rfl) (Nat.le_of_ble_eq_true rfl) rfl rfl ⟨rfl, rfl⟩ ?_
    refine V_aload_n hC kX1_serve_28 rfl ?_
    refine V_iload_n hC kX1_serve_29 rfl ?_
    refine V_cV_fR hC (cl_lightAt hWr rfl (by have := hI.c4.1; omega) (by rw [ups_ne _ _ _ (by omega)]; rw [hR.c3, hI.c4.2]; exact (nI_ltI (by have := hI.c4.1; omega) (by have := hI.c4.1; omega)).mpr hm)) mkX1_lightAt lmX1_62 kX1_serve_30 (Nat.le_of_ble_eq_true rfl) rfl rfl rfl (Nat.le_of_ble_eq_true rfl) ⟨(Nat.le_of_ble_eq_true rfl), (Nat.le_of_ble_eq_true rfl)⟩ ⟨rfl, rfl⟩ ⟨(Nat.le_of_ble_eq_true rfl), (Nat.le_of_ble_eq_true rfl)⟩ ?_
    refine V_astore hC [some _, some _, some _, some _, some _] kX1_serve_33 rfl (Nat.le_of_ble_eq_true rfl) ?_
    refine V_aload hC kX1_serve_35 rfl ?_
    refine V_ifnull hC 54 kX1_serve_37 (by decide) (fun hq => by cases hq) (fun _ _ => ?_)
    refine V_aload hC kX1_serve_40 rfl ?_
    refine V_dup hC kX1_serve_42 rfl ?_
    refine V_getI hC 2 7 lfX1_230 kX1_serve_43 (Nat.le_of_ble_eq_true rfl) (Nat.le_of_ble_eq_true rfl) rfl ?_
    refine V_aload_n hC kX1_serve_46 rfl ?_
    refine V_getI hC 0 0 lfX1_233 kX1_serve_47 (Nat.le_of_ble_eq_true rfl) (Nat.le_of_ble_eq_true rfl) rfl ?_
    refine V_ior hC kX1_serve_50 ?_
    refine V_putI hC 2 7 lfX1_230 kX1_serve_51 (Nat.le_of_ble_eq_true rfl) (Nat.le_of_ble_eq_true rfl) rfl rfl ⟨rfl, rfl⟩ ?_
    refine V_aload_n hC kX1_serve_54 rfl ?_
    refine V_iload_n hC kX1_serve_55 rfl ?_
    refine V_putI hC 0 3 lfX1_88 kX1_serve_56 (Nat.le_of_ble_eq_true rfl) (Nat.le_of_ble_eq_true rfl) rfl rfl ⟨rfl, rfl⟩ ?_
    refine V_vret hC rfl kX1_serve_59 ?_
    refine ⟨by with_reducible rfl, ?_, (((Fr.rf c sg).ups _ _ (by have := hI.c4.1; omega)).ups _ _ (by have := hI.c4.1; omega)).ups _ _ (by have := hI.c5.1; omega)⟩
    exact hR.sv11 hI hn hk hm ho
def mtX1_lose : Mt := (yX1_lose, cX1_lose, 2, none, 2, 45, 0, 0)
theorem kX1_lose_0 : Dk mtX1_lose 0 (.aload_n 0) 1 1 := ⟨by decide +kernel, rfl⟩
theorem kX1_lose_1 : Dk mtX1_lose 1 (.aload_n 1) 1 2 := ⟨by decide +kernel, rfl⟩
theorem kX1_lose_2 : Dk mtX1_lose 2 (.iconst (-1)) 1 3 := ⟨by decide +kernel, rfl⟩
theorem kX1_lose_3 : Dk mtX1_lose 3 (.invokevirtual 205) 3 6 := ⟨by decide +kernel, rfl⟩
theorem kX1_lose_6 : Dk mtX1_lose 6 (.aload_n 1) 1 7 := ⟨by decide +kernel, rfl⟩
theorem kX1_lose_7 : Dk mtX1_lose 7 (.iconst (-1)) 1 8 := ⟨by decide +kernel, rfl⟩
theorem kX1_lose_8 : Dk mtX1_lose 8 (.invokevirtual 196) 3 11 := ⟨by decide +kernel, rfl⟩
theorem kX1_lose_11 : Dk mtX1_lose 11 (.aload_n 1) 1 12 := ⟨by decide +kernel, rfl⟩
theorem kX1_lose_12 : Dk mtX1_lose 12 (.getfield 91) 3 15 := ⟨by decide +kernel, rfl⟩
theorem kX1_lose_15 : Dk mtX1_lose 15 (.ifCond .le 18) 3 18 := ⟨by decide +kernel, rfl⟩
theorem kX1_lose_18 : Dk mtX1_lose 18 (.aload_n 1) 1 19 := ⟨by decide +kernel, rfl⟩
theorem kX1_lose_19 : Dk mtX1_lose 19 (.iconst 0) 1 20 := ⟨by decide +kernel, rfl⟩
theorem kX1_lose_20 : Dk mtX1_lose 20 (.putfield 91) 3 23 := ⟨by decide +kernel, rfl⟩
theorem kX1_lose_23 : Dk mtX1_lose 23 (.aload_n 0) 1 24 := ⟨by decide +kernel, rfl⟩
theorem kX1_lose_24 : Dk mtX1_lose 24 (.dup) 1 25 := ⟨by decide +kernel, rfl⟩
theorem kX1_lose_25 : Dk mtX1_lose 25 (.getfield 56) 3 28 := ⟨by decide +kernel, rfl⟩
theorem kX1_lose_28 : Dk mtX1_lose 28 (.iconst 1) 1 29 := ⟨by decide +kernel, rfl⟩
theorem kX1_lose_29 : Dk mtX1_lose 29 (.iadd) 1 30 := ⟨by decide +kernel, rfl⟩
theorem kX1_lose_30 : Dk mtX1_lose 30 (.putfield 56) 3 33 := ⟨by decide +kernel, rfl⟩
theorem kX1_lose_33 : Dk mtX1_lose 33 (.return_) 1 34 := ⟨by decide +kernel, rfl⟩
theorem lmX1_205 : LkM RX1 205 mtX1_serve := Or.inl (by decide +kernel)
theorem mkX1_serve : MkV mtX1_serve 2 := ⟨List.mem_of_getElem? (i := 546) (by decide +kernel), by decide +kernel, by decide +kernel, by decide +kernel, ⟨by decide +kernel, by decide +kernel, by decide +kernel⟩⟩
theorem lmX1_196 : LkM RX1 196 mtX0_wishFor := Or.inl (by decide +kernel)
theorem mkX0_wishFor : MkV mtX0_wishFor 1 := ⟨List.mem_of_getElem? (i := 550) (by decide +kernel), by decide +kernel, by decide +kernel, by decide +kernel, ⟨by decide +kernel, by decide +kernel, by decide +kernel⟩⟩
set_option maxHeartbeats 4000000 in
set_option maxRecDepth 100000 in
theorem cl_lose {l : Launch} {w : Wd} {sg : Sg} (hWr : Wr w) {c : Nat} {g : Gs} (hR : Rel sg c g) (hI : Inv g) {n : Nat} (hn : n < tn (g 5)) : M l mtX1_lose w [vR (some (1, 0, c)), vR (some (0, 0, c + 9 + n))] sg (rV (fun sg2 => Rel sg2 c (F_drops g (nI n)) ∧ Fr c sg sg2)) := by
  refine M_of [some (vR (some (1, 0, c))), some (vR (some (0, 0, c + 9 + n)))] rfl (Nat.le_of_ble_eq_true rfl) (by decide +kernel) ?_
  intro p_ e_ s_ m_ args_ below_ meth_ c_ hC hO
  refine V_aload_n hC kX1_lose_0 rfl ?_
  refine V_aload_n hC kX1_lose_1 rfl ?_
  refine V_iconst hC (-1) kX1_lose_2 (by decide) ?_
  refine V_cV_rV hC (cl_serve hWr hR hI hn _ (Or.inl rfl)) mkX1_serve lmX1_205 kX1_lose_3 (Nat.le_of_ble_eq_true rfl) rfl rfl rfl (Nat.le_of_ble_eq_true rfl) ⟨(Nat.le_of_ble_eq_true rfl), (Nat.le_of_ble_eq_true rfl)⟩ ⟨rfl, rfl⟩ ⟨(Nat.le_of_ble_eq_true rfl), (Nat.le_of_ble_eq_true rfl)⟩ (fun g3 h3 => ?_)
  have h8 : n < 8 := by have := hI.c5.1; omega
  obtain ⟨hR1, hF1⟩ := h3
  rw [show (-1 : Int32) + 1 = 0 from rfl, pB_2 _ _ h8] at hR1
  have hC1 := Cn_upd hI.cn (i := 60 + 10 * n + 2) 0 (by omega)
  refine V_aload_n hC kX1_lose_6 rfl ?_
  refine V_iconst hC (-1) kX1_lose_7 (by decide) ?_
  refine V_cV_fV hC (cl_wishFor hWr _) mkX0_wishFor lmX1_196 kX1_lose_8 (Nat.le_of_ble_eq_true rfl) rfl rfl rfl (Nat.le_of_ble_eq_true rfl) ⟨(Nat.le_of_ble_eq_true rfl), (Nat.le_of_ble_eq_true rfl)⟩ ⟨rfl, rfl⟩ ⟨(Nat.le_of_ble_eq_true rfl), (Nat.le_of_ble_eq_true rfl)⟩ ?_
  refine V_nameS (fun sg1 e_sg1 => ?_)
  have hR2 : Rel sg1 c (F_dropsA g (nI n)) := by
    rw [e_sg1, if_pos rfl]
    have := hR1.wishFor hC1 h8 (t := 0) (a := -1) (y := 0) rfl
    rw [fa_upd_swap (upd g (60 + 10 * n + 2) 0) (show 60 + 10 * n + 5 ≠ 60 + 10 * n + 4 by omega)] at this
    unfold F_dropsA
    rw [pB_2 _ _ h8, pB_4 _ _ h8, pB_5 _ _ h8]
    exact this
  have hF2 : Fr c sg sg1 := by
    rw [e_sg1]
    exact hF1.upr _ (by omega)
  have hC2 : Cn (F_dropsA g (nI n)) := by
    unfold F_dropsA
    rw [pB_2 _ _ h8, pB_4 _ _ h8, pB_5 _ _ h8]
    exact Cn_upd (Cn_upd hC1 _ (by omega)) _ (by omega)
  have e3 : F_dropsA g (nI n) (60 + 10 * n + 3) = g (60 + 10 * n + 3) := by
    unfold F_dropsA
    rw [pB_2 _ _ h8, pB_4 _ _ h8, pB_5 _ _ h8, pk_un (by omega), pk_un (by omega), pk_un (by omega)]
  have e5 : F_dropsA g (nI n) 5 = g 5 := by
    unfold F_dropsA
    rw [pB_2 _ _ h8, pB_4 _ _ h8, pB_5 _ _ h8, pk_un (by omega), pk_un (by omega), pk_un (by omega)]
  have em : sg1 (c + 9 + n) 4 = gB (F_dropsA g (nI n)) (nI n) 3 := (hR2.2.2.2.1 n (by rw [e5]; exact hn) 4 (by decide)).trans ((gB_3 (F_dropsA g (nI n)) h8).symm : F_dropsA g (nI n) (60 + 10 * n + 3) = _)
  have hT : ¬ 0 < gB (F_dropsA g (nI n)) (nI n) 3 → gB (F_dropsA g (nI n)) (nI n) 3 = 0 := by
    intro z
    rw [gB_3 _ h8, e3] at z ⊢
    obtain ⟨b1, b2, b3, b4, b5, b6⟩ := hI.2.2.2.1 n hn
    have := Int32.le_iff_toInt_le.mp (Int32.not_lt.mp z)
    have z0 : (0 : Int32).toInt = 0 := rfl
    exact Int32.toInt_inj.mp (by have := b4.1; omega)
  refine V_aload_n hC kX1_lose_11 rfl ?_
  refine V_getI hC 0 4 lfX1_91 kX1_lose_12 (Nat.le_of_ble_eq_true rfl) (Nat.le_of_ble_eq_true rfl) rfl ?_
  refine V_if_le hC 33 kX1_lose_15 (by decide) (fun h15 => ?_) (fun h15 => ?_)
  · refine V_vret hC rfl kX1_lose_33 ?_
    refine ⟨by with_reducible rfl, ?_, ?_⟩
    · rw [drops_eq h8 hT]
      first
      | (rw [if_neg (by rw [← em]; exact Int32.not_lt.mpr h15)]; exact hR2)
      | (have hR3 := hR2.qb4 hC2 h8 0 (x := 0) rfl
         have hR4 := hR3.putC' (Cn_upd hC2 _ (by omega)) 9 (ups sg1 (c + 9 + n) 4 0 c 9 + 1) (by decide)
         rw [if_pos (by rw [← em]; exact Int32.not_le.mp h15)]
         rw [hR3.c9, pk_un (by omega)] at hR4 ⊢
         exact hR4)
    · first
      | exact hF2
      | exact (hF2.ups _ _ (by omega)).ups _ _ (by omega)
  · refine V_aload_n hC kX1_lose_18 rfl ?_
    refine V_iconst hC (0) kX1_lose_19 (by decide) ?_
    refine V_putI hC 0 4 lfX1_91 kX1_lose_20 (Nat.le_of_ble_eq_true rfl) (Nat.le_of_ble_eq_true rfl) rfl rfl ⟨rfl, rfl⟩ ?_
    refine V_aload_n hC kX1_lose_23 rfl ?_
    refine V_dup hC kX1_lose_24 rfl ?_
    refine V_getI hC 1 9 lfX1_56 kX1_lose_25 (Nat.le_of_ble_eq_true rfl) (Nat.le_of_ble_eq_true rfl) rfl ?_
    refine V_iconst hC (1) kX1_lose_28 (by decide) ?_
    refine V_iadd hC kX1_lose_29 ?_
    refine V_putI hC 1 9 lfX1_56 kX1_lose_30 (Nat.le_of_ble_eq_true rfl) (Nat.le_of_ble_eq_true rfl) rfl rfl ⟨rfl, rfl⟩ ?_
    refine V_vret hC rfl kX1_lose_33 ?_
    refine ⟨by with_reducible rfl, ?_, ?_⟩
    · rw [drops_eq h8 hT]
      first
      | (rw [if_neg (by rw [← em]; exact Int32.not_lt.mpr h15)]; exact hR2)
      | (have hR3 := hR2.qb4 hC2 h8 0 (x := 0) rfl
         have hR4 := hR3.putC' (Cn_upd hC2 _ (by omega)) 9 (ups sg1 (c + 9 + n) 4 0 c 9 + 1) (by decide)
         rw [if_pos (by rw [← em]; exact Int32.not_le.mp h15)]
         rw [hR3.c9, pk_un (by omega)] at hR4 ⊢
         exact hR4)
    · first
      | exact hF2
      | exact (hF2.ups _ _ (by omega)).ups _ _ (by omega)
def mtX1_bestWish : Mt := (yX1_bestWish, cX1_bestWish, 8, (some .int), 2, 48, 0, 0)
theorem kX1_bestWish_0 : Dk mtX1_bestWish 0 (.iconst (-1)) 1 1 := ⟨by decide +kernel, rfl⟩
theorem kX1_bestWish_1 : Dk mtX1_bestWish 1 (.istore_n 3) 1 2 := ⟨by decide +kernel, rfl⟩
theorem kX1_bestWish_2 : Dk mtX1_bestWish 2 (.aload_n 2) 1 3 := ⟨by decide +kernel, rfl⟩
theorem kX1_bestWish_3 : Dk mtX1_bestWish 3 (.aload_n 1) 1 4 := ⟨by decide +kernel, rfl⟩
theorem kX1_bestWish_4 : Dk mtX1_bestWish 4 (.getfield 107) 3 7 := ⟨by decide +kernel, rfl⟩
theorem kX1_bestWish_7 : Dk mtX1_bestWish 7 (.aload_n 0) 1 8 := ⟨by decide +kernel, rfl⟩
theorem kX1_bestWish_8 : Dk mtX1_bestWish 8 (.getfield 44) 3 11 := ⟨by decide +kernel, rfl⟩
theorem kX1_bestWish_11 : Dk mtX1_bestWish 11 (.invokevirtual 94) 3 14 := ⟨by decide +kernel, rfl⟩
theorem kX1_bestWish_14 : Dk mtX1_bestWish 14 (.aload_n 0) 1 15 := ⟨by decide +kernel, rfl⟩
theorem kX1_bestWish_15 : Dk mtX1_bestWish 15 (.iconst 0) 1 16 := ⟨by decide +kernel, rfl⟩
theorem kX1_bestWish_16 : Dk mtX1_bestWish 16 (.invokevirtual 77) 3 19 := ⟨by decide +kernel, rfl⟩
theorem kX1_bestWish_19 : Dk mtX1_bestWish 19 (.iadd) 1 20 := ⟨by decide +kernel, rfl⟩
theorem kX1_bestWish_20 : Dk mtX1_bestWish 20 (.istore 4) 2 22 := ⟨by decide +kernel, rfl⟩
theorem kX1_bestWish_22 : Dk mtX1_bestWish 22 (.iconst 0) 1 23 := ⟨by decide +kernel, rfl⟩
theorem kX1_bestWish_23 : Dk mtX1_bestWish 23 (.istore 5) 2 25 := ⟨by decide +kernel, rfl⟩
theorem kX1_bestWish_25 : Dk mtX1_bestWish 25 (.iload 5) 2 27 := ⟨by decide +kernel, rfl⟩
theorem kX1_bestWish_27 : Dk mtX1_bestWish 27 (.aload_n 0) 1 28 := ⟨by decide +kernel, rfl⟩
theorem kX1_bestWish_28 : Dk mtX1_bestWish 28 (.getfield 37) 3 31 := ⟨by decide +kernel, rfl⟩
theorem kX1_bestWish_31 : Dk mtX1_bestWish 31 (.if_icmp .ge 71) 3 34 := ⟨by decide +kernel, rfl⟩
theorem kX1_bestWish_34 : Dk mtX1_bestWish 34 (.aload_n 0) 1 35 := ⟨by decide +kernel, rfl⟩
theorem kX1_bestWish_35 : Dk mtX1_bestWish 35 (.iload 5) 2 37 := ⟨by decide +kernel, rfl⟩
theorem kX1_bestWish_37 : Dk mtX1_bestWish 37 (.invokevirtual 62) 3 40 := ⟨by decide +kernel, rfl⟩
theorem kX1_bestWish_40 : Dk mtX1_bestWish 40 (.astore 6) 2 42 := ⟨by decide +kernel, rfl⟩
theorem kX1_bestWish_42 : Dk mtX1_bestWish 42 (.aload 6) 2 44 := ⟨by decide +kernel, rfl⟩
theorem kX1_bestWish_44 : Dk mtX1_bestWish 44 (.ifnonnull 7) 3 47 := ⟨by decide +kernel, rfl⟩
theorem kX1_bestWish_51 : Dk mtX1_bestWish 51 (.aload 6) 2 53 := ⟨by decide +kernel, rfl⟩
theorem kX1_bestWish_53 : Dk mtX1_bestWish 53 (.aload_n 1) 1 54 := ⟨by decide +kernel, rfl⟩
theorem kX1_bestWish_54 : Dk mtX1_bestWish 54 (.getfield 107) 3 57 := ⟨by decide +kernel, rfl⟩
theorem kX1_bestWish_57 : Dk mtX1_bestWish 57 (.aload_n 0) 1 58 := ⟨by decide +kernel, rfl⟩
theorem kX1_bestWish_58 : Dk mtX1_bestWish 58 (.getfield 44) 3 61 := ⟨by decide +kernel, rfl⟩
theorem kX1_bestWish_61 : Dk mtX1_bestWish 61 (.invokevirtual 94) 3 64 := ⟨by decide +kernel, rfl⟩
theorem kX1_bestWish_64 : Dk mtX1_bestWish 64 (.istore 7) 2 66 := ⟨by decide +kernel, rfl⟩
theorem kX1_bestWish_66 : Dk mtX1_bestWish 66 (.aload 6) 2 68 := ⟨by decide +kernel, rfl⟩
theorem kX1_bestWish_68 : Dk mtX1_bestWish 68 (.ifnull 28) 3 71 := ⟨by decide +kernel, rfl⟩
theorem kX1_bestWish_71 : Dk mtX1_bestWish 71 (.iload 5) 2 73 := ⟨by decide +kernel, rfl⟩
theorem kX1_bestWish_73 : Dk mtX1_bestWish 73 (.aload_n 1) 1 74 := ⟨by decide +kernel, rfl⟩
theorem kX1_bestWish_74 : Dk mtX1_bestWish 74 (.getfield 88) 3 77 := ⟨by decide +kernel, rfl⟩
theorem kX1_bestWish_77 : Dk mtX1_bestWish 77 (.if_icmp .eq 19) 3 80 := ⟨by decide +kernel, rfl⟩
theorem kX1_bestWish_80 : Dk mtX1_bestWish 80 (.iload 7) 2 82 := ⟨by decide +kernel, rfl⟩
theorem kX1_bestWish_82 : Dk mtX1_bestWish 82 (.iload 4) 2 84 := ⟨by decide +kernel, rfl⟩
theorem kX1_bestWish_84 : Dk mtX1_bestWish 84 (.if_icmp .lt 12) 3 87 := ⟨by decide +kernel, rfl⟩
theorem kX1_bestWish_87 : Dk mtX1_bestWish 87 (.iload 5) 2 89 := ⟨by decide +kernel, rfl⟩
theorem kX1_bestWish_89 : Dk mtX1_bestWish 89 (.istore_n 3) 1 90 := ⟨by decide +kernel, rfl⟩
theorem kX1_bestWish_90 : Dk mtX1_bestWish 90 (.iload 7) 2 92 := ⟨by decide +kernel, rfl⟩
theorem kX1_bestWish_92 : Dk mtX1_bestWish 92 (.iconst 1) 1 93 := ⟨by decide +kernel, rfl⟩
theorem kX1_bestWish_93 : Dk mtX1_bestWish 93 (.iadd) 1 94 := ⟨by decide +kernel, rfl⟩
theorem kX1_bestWish_94 : Dk mtX1_bestWish 94 (.istore 4) 2 96 := ⟨by decide +kernel, rfl⟩
theorem kX1_bestWish_96 : Dk mtX1_bestWish 96 (.iinc 5 1) 3 99 := ⟨by decide +kernel, rfl⟩
theorem kX1_bestWish_99 : Dk mtX1_bestWish 99 (.goto (-74)) 3 102 := ⟨by decide +kernel, rfl⟩
theorem kX1_bestWish_102 : Dk mtX1_bestWish 102 (.iload_n 3) 1 103 := ⟨by decide +kernel, rfl⟩
theorem kX1_bestWish_103 : Dk mtX1_bestWish 103 (.ireturn) 1 104 := ⟨by decide +kernel, rfl⟩
set_option maxHeartbeats 4000000 in
set_option maxRecDepth 100000 in
theorem cl_bestWish {l : Launch} {w : Wd} {sg : Sg} (hWr : Wr w) {c : Nat} {g : Gs} (hR : Rel sg c g) (hI : Inv g) {n : Nat} (hn : n < tn (g 5)) {k : Nat} (hk : k < tn (g 4)) (ho : gB g (nI n) 2 = nI k + 1) : M l mtX1_bestWish w [vR (some (1, 0, c)), vR (some (0, 0, c + 9 + n)), vR (some (2, 0, c + 2 + k))] sg (fI (F_wished g (nI n)) sg) := by
  refine M_of [some (vR (some (1, 0, c))), some (vR (some (0, 0, c + 9 + n))), some (vR (some (2, 0, c + 2 + k))), none, none, none, none, none] rfl (Nat.le_of_ble_eq_true rfl) (by decide +kernel) ?_
  intro p_ e_ s_ m_ args_ below_ meth_ c_ hC hO
  refine V_iconst hC (-1) kX1_bestWish_0 (by decide) ?_
  refine V_istore_n hC [some _, some _, some _, some _, none, none, none, none] kX1_bestWish_1 rfl (Nat.le_of_ble_eq_true rfl) ?_
  refine V_aload_n hC kX1_bestWish_2 rfl ?_
  refine V_aload_n hC kX1_bestWish_3 rfl ?_
  refine V_getI hC 0 1 lfX1_107 kX1_bestWish_4 (Nat.le_of_ble_eq_true rfl) (Nat.le_of_ble_eq_true rfl) rfl ?_
  refine V_aload_n hC kX1_bestWish_7 rfl ?_
  refine V_getI hC 1 5 lfX1_44 kX1_bestWish_8 (Nat.le_of_ble_eq_true rfl) (Nat.le_of_ble_eq_true rfl) rfl ?_
  refine V_cV_fI hC (cl_worth hWr _ _ (by rw [hR.b1 hI hn]; exact hR.okW hI hk (hI.bp hn))) mkX2_worthAt lmX1_94 kX1_bestWish_11 (Nat.le_of_ble_eq_true rfl) rfl rfl rfl (Nat.le_of_ble_eq_true rfl) ⟨(Nat.le_of_ble_eq_true rfl), (Nat.le_of_ble_eq_true rfl)⟩ ⟨rfl, rfl⟩ ⟨(Nat.le_of_ble_eq_true rfl), (Nat.le_of_ble_eq_true rfl)⟩ ?_
  refine V_aload_n hC kX1_bestWish_14 rfl ?_
  refine V_iconst hC (0) kX1_bestWish_15 (by decide) ?_
  refine V_cV_fI hC (cl_setR hWr hR (j := 0) (by decide) rfl) mkX1_settingOf lmX1_77 kX1_bestWish_16 (Nat.le_of_ble_eq_true rfl) rfl rfl rfl (Nat.le_of_ble_eq_true rfl) ⟨(Nat.le_of_ble_eq_true rfl), (Nat.le_of_ble_eq_true rfl)⟩ ⟨rfl, rfl⟩ ⟨(Nat.le_of_ble_eq_true rfl), (Nat.le_of_ble_eq_true rfl)⟩ ?_
  refine V_iadd hC kX1_bestWish_19 ?_
  rw [hR.b1 hI hn, hR.worth hI hk]
  refine V_nameI (fun le0 e_le0 => ?_)
  refine V_istore hC [some _, some _, some _, some _, some _, none, none, none] kX1_bestWish_20 rfl (Nat.le_of_ble_eq_true rfl) ?_
  refine V_iconst hC (0) kX1_bestWish_22 (by decide) ?_
  refine V_istore hC [some _, some _, some _, some _, some _, some _, none, none] kX1_bestWish_23 rfl (Nat.le_of_ble_eq_true rfl) ?_
  replace e_le0 : le0 = wLeast g (nI n) 0 := e_le0.trans (by show _ = wBase g (nI n); unfold wBase; rw [ho, sub1])
  subst e_le0
  refine V_loop (tn (g 4)) (fun i => [some (vR (some (1, 0, c))), some (vR (some (0, 0, c + 9 + n))), some (vR (some (2, 0, c + 2 + k))), some (vI (F_wishedN g (nI n) i)), some (vI (wLeast g (nI n) i)), some (vI (nI i)), none, none]) (fun i => sg) rfl rfl ?_ (fun i hi ihi => ?_)
  · refine V_iload hC kX1_bestWish_25 rfl ?_
    refine V_aload_n hC kX1_bestWish_27 rfl ?_
    refine V_getI hC 1 3 lfX1_37 kX1_bestWish_28 (Nat.le_of_ble_eq_true rfl) (Nat.le_of_ble_eq_true rfl) rfl ?_
    refine V_icmp_ge hC 102 kX1_bestWish_31 (by decide) (fun h31 => ?_) (fun h31 => absurd h31 (not_not_intro (by rw [hR.c3]; exact cnt_le hI.hc4.1)))
    refine V_iload_n hC kX1_bestWish_102 rfl ?_
    refine V_ireti hC rfl kX1_bestWish_103 ?_
    refine ⟨cI ?_, by with_reducible rfl⟩
    unfold F_wished
    with_reducible rfl
  · refine V_iload hC kX1_bestWish_25 rfl ?_
    refine V_aload_n hC kX1_bestWish_27 rfl ?_
    refine V_getI hC 1 3 lfX1_37 kX1_bestWish_28 (Nat.le_of_ble_eq_true rfl) (Nat.le_of_ble_eq_true rfl) rfl ?_
    refine V_icmp_ge hC 102 kX1_bestWish_31 (by decide) (fun h31 => absurd h31 (by rw [hR.c3]; exact cnt_lt hI.hc4.1 hi)) (fun h31 => ?_)
    refine V_aload_n hC kX1_bestWish_34 rfl ?_
    refine V_iload hC kX1_bestWish_35 rfl ?_
    refine V_cV_fR hC (cl_lightR hWr hR hI hi) mkX1_lightAt lmX1_62 kX1_bestWish_37 (Nat.le_of_ble_eq_true rfl) rfl rfl rfl (Nat.le_of_ble_eq_true rfl) ⟨(Nat.le_of_ble_eq_true rfl), (Nat.le_of_ble_eq_true rfl)⟩ ⟨rfl, rfl⟩ ⟨(Nat.le_of_ble_eq_true rfl), (Nat.le_of_ble_eq_true rfl)⟩ ?_
    refine V_astore hC [some _, some _, some _, some _, some _, some _, some _, none] kX1_bestWish_40 rfl (Nat.le_of_ble_eq_true rfl) ?_
    refine V_aload hC kX1_bestWish_42 rfl ?_
    refine V_ifnonnull hC 51 kX1_bestWish_44 (by decide) (fun _ _ => ?_) (fun hq => by cases hq)
    refine V_aload hC kX1_bestWish_51 rfl ?_
    refine V_aload_n hC kX1_bestWish_53 rfl ?_
    refine V_getI hC 0 1 lfX1_107 kX1_bestWish_54 (Nat.le_of_ble_eq_true rfl) (Nat.le_of_ble_eq_true rfl) rfl ?_
    refine V_aload_n hC kX1_bestWish_57 rfl ?_
    refine V_getI hC 1 5 lfX1_44 kX1_bestWish_58 (Nat.le_of_ble_eq_true rfl) (Nat.le_of_ble_eq_true rfl) rfl ?_
    refine V_cV_fI hC (cl_worth hWr _ _ (by rw [hR.b1 hI hn]; exact hR.okW hI hi (hI.bp hn))) mkX2_worthAt lmX1_94 kX1_bestWish_61 (Nat.le_of_ble_eq_true rfl) rfl rfl rfl (Nat.le_of_ble_eq_true rfl) ⟨(Nat.le_of_ble_eq_true rfl), (Nat.le_of_ble_eq_true rfl)⟩ ⟨rfl, rfl⟩ ⟨(Nat.le_of_ble_eq_true rfl), (Nat.le_of_ble_eq_true rfl)⟩ ?_
    refine V_nameI (fun wo e_wo => ?_)
    refine V_istore hC [some _, some _, some _, some _, some _, some _, some _, some _] kX1_bestWish_64 rfl (Nat.le_of_ble_eq_true rfl) ?_
    rw [hR.b1 hI hn, hR.worth hI hi] at e_wo
    have hcs := wish_s hR hI hn hi
    refine V_aload hC kX1_bestWish_66 rfl ?_
    refine V_ifnull hC 96 kX1_bestWish_68 (by decide) (fun hq => by cases hq) (fun _ _ => ?_)
    refine V_iload hC kX1_bestWish_71 rfl ?_
    refine V_aload_n hC kX1_bestWish_73 rfl ?_
    refine V_getI hC 0 3 lfX1_88 kX1_bestWish_74 (Nat.le_of_ble_eq_true rfl) (Nat.le_of_ble_eq_true rfl) rfl ?_
    refine V_icmp_eq hC 96 kX1_bestWish_77 (by decide) (fun h77 => ?_) (fun h77 => ?_)
    · refine V_iinc hC (_ + 1) [some _, some _, some _, some _, some _, some _, some _, some _] kX1_bestWish_96 rfl rfl rfl (Nat.le_of_ble_eq_true rfl) ?_
      refine V_goto hC 25 kX1_bestWish_99 (by decide) ?_
      refine V_drop 6 [_, _, _, _, _, _, none, _] rfl ?_
      refine V_drop 7 [_, _, _, _, _, _, none, none] rfl ?_
      refine V_eq ?_ rfl ihi
      obtain ⟨e1, e2⟩ := wish_n (g := g) (n := n) (i := i) (fun z => (hcs.mpr z).1 (by rw [hR.b3 hI hn] at h77; exact h77))
      rw [nI_succ, e1, e2]
    · refine V_iload hC kX1_bestWish_80 rfl ?_
      refine V_iload hC kX1_bestWish_82 rfl ?_
      refine V_icmp_lt hC 96 kX1_bestWish_84 (by decide) (fun h84 => ?_) (fun h84 => ?_)
      · refine V_iinc hC (_ + 1) [some _, some _, some _, some _, some _, some _, some _, some _] kX1_bestWish_96 rfl rfl rfl (Nat.le_of_ble_eq_true rfl) ?_
        refine V_goto hC 25 kX1_bestWish_99 (by decide) ?_
        refine V_drop 6 [_, _, _, _, _, _, none, _] rfl ?_
        refine V_drop 7 [_, _, _, _, _, _, none, none] rfl ?_
        refine V_eq ?_ rfl ihi
        obtain ⟨e1, e2⟩ := wish_n (g := g) (n := n) (i := i) (fun z => absurd (hcs.mpr z).2 (Int32.not_le.mpr (by rw [e_wo] at h84; exact h84)))
        rw [nI_succ, e1, e2]
      · refine V_iload hC kX1_bestWish_87 rfl ?_
        refine V_istore_n hC [some _, some _, some _, some _, some _, some _, some _, some _] kX1_bestWish_89 rfl (Nat.le_of_ble_eq_true rfl) ?_
        refine V_iload hC kX1_bestWish_90 rfl ?_
        refine V_iconst hC (1) kX1_bestWish_92 (by decide) ?_
        refine V_iadd hC kX1_bestWish_93 ?_
        refine V_istore hC [some _, some _, some _, some _, some _, some _, some _, some _] kX1_bestWish_94 rfl (Nat.le_of_ble_eq_true rfl) ?_
        refine V_iinc hC (_ + 1) [some _, some _, some _, some _, some _, some _, some _, some _] kX1_bestWish_96 rfl rfl rfl (Nat.le_of_ble_eq_true rfl) ?_
        refine V_goto hC 25 kX1_bestWish_99 (by decide) ?_
        refine V_drop 6 [_, _, _, _, _, _, none, _] rfl ?_
        refine V_drop 7 [_, _, _, _, _, _, none, none] rfl ?_
        refine V_eq ?_ rfl ihi
        have hyes : ¬ nI i = gB g (nI n) 2 - 1 ∧ wLeast g (nI n) i ≤ F_worth g (nI i) (gB g (nI n) 0) := ⟨by rw [hR.b3 hI hn] at h77; exact h77, by rw [e_wo] at h84; exact Int32.not_lt.mp h84⟩
        obtain ⟨e1, e2⟩ := wish_y (hcs.mp hyes) (by have := hI.c4.1; omega)
        rw [nI_succ, e1, e2, e_wo]
def mtX1_seekKeeper : Mt := (yX1_seekKeeper, cX1_seekKeeper, 7, none, 3, 60, 0, 0)
theorem kX1_seekKeeper_0 : Dk mtX1_seekKeeper 0 (.iconst (-1)) 1 1 := ⟨by decide +kernel, rfl⟩
theorem kX1_seekKeeper_1 : Dk mtX1_seekKeeper 1 (.istore_n 2) 1 2 := ⟨by decide +kernel, rfl⟩
theorem kX1_seekKeeper_2 : Dk mtX1_seekKeeper 2 (.iconst 0) 1 3 := ⟨by decide +kernel, rfl⟩
theorem kX1_seekKeeper_3 : Dk mtX1_seekKeeper 3 (.istore_n 3) 1 4 := ⟨by decide +kernel, rfl⟩
theorem kX1_seekKeeper_4 : Dk mtX1_seekKeeper 4 (.iconst 0) 1 5 := ⟨by decide +kernel, rfl⟩
theorem kX1_seekKeeper_5 : Dk mtX1_seekKeeper 5 (.istore 4) 2 7 := ⟨by decide +kernel, rfl⟩
theorem kX1_seekKeeper_7 : Dk mtX1_seekKeeper 7 (.iload 4) 2 9 := ⟨by decide +kernel, rfl⟩
theorem kX1_seekKeeper_9 : Dk mtX1_seekKeeper 9 (.aload_n 0) 1 10 := ⟨by decide +kernel, rfl⟩
theorem kX1_seekKeeper_10 : Dk mtX1_seekKeeper 10 (.getfield 37) 3 13 := ⟨by decide +kernel, rfl⟩
theorem kX1_seekKeeper_13 : Dk mtX1_seekKeeper 13 (.if_icmp .ge 83) 3 16 := ⟨by decide +kernel, rfl⟩
theorem kX1_seekKeeper_16 : Dk mtX1_seekKeeper 16 (.aload_n 0) 1 17 := ⟨by decide +kernel, rfl⟩
theorem kX1_seekKeeper_17 : Dk mtX1_seekKeeper 17 (.iload 4) 2 19 := ⟨by decide +kernel, rfl⟩
theorem kX1_seekKeeper_19 : Dk mtX1_seekKeeper 19 (.invokevirtual 62) 3 22 := ⟨by decide +kernel, rfl⟩
theorem kX1_seekKeeper_22 : Dk mtX1_seekKeeper 22 (.astore 5) 2 24 := ⟨by decide +kernel, rfl⟩
theorem kX1_seekKeeper_24 : Dk mtX1_seekKeeper 24 (.aload 5) 2 26 := ⟨by decide +kernel, rfl⟩
theorem kX1_seekKeeper_26 : Dk mtX1_seekKeeper 26 (.ifnull 64) 3 29 := ⟨by decide +kernel, rfl⟩
theorem kX1_seekKeeper_29 : Dk mtX1_seekKeeper 29 (.aload 5) 2 31 := ⟨by decide +kernel, rfl⟩
theorem kX1_seekKeeper_31 : Dk mtX1_seekKeeper 31 (.invokevirtual 227) 3 34 := ⟨by decide +kernel, rfl⟩
theorem kX1_seekKeeper_34 : Dk mtX1_seekKeeper 34 (.ifCond .eq 56) 3 37 := ⟨by decide +kernel, rfl⟩
theorem kX1_seekKeeper_37 : Dk mtX1_seekKeeper 37 (.aload 5) 2 39 := ⟨by decide +kernel, rfl⟩
theorem kX1_seekKeeper_39 : Dk mtX1_seekKeeper 39 (.aload_n 1) 1 40 := ⟨by decide +kernel, rfl⟩
theorem kX1_seekKeeper_40 : Dk mtX1_seekKeeper 40 (.getfield 107) 3 43 := ⟨by decide +kernel, rfl⟩
theorem kX1_seekKeeper_43 : Dk mtX1_seekKeeper 43 (.aload_n 0) 1 44 := ⟨by decide +kernel, rfl⟩
theorem kX1_seekKeeper_44 : Dk mtX1_seekKeeper 44 (.getfield 44) 3 47 := ⟨by decide +kernel, rfl⟩
theorem kX1_seekKeeper_47 : Dk mtX1_seekKeeper 47 (.invokevirtual 98) 3 50 := ⟨by decide +kernel, rfl⟩
theorem kX1_seekKeeper_50 : Dk mtX1_seekKeeper 50 (.aload_n 0) 1 51 := ⟨by decide +kernel, rfl⟩
theorem kX1_seekKeeper_51 : Dk mtX1_seekKeeper 51 (.iconst 2) 1 52 := ⟨by decide +kernel, rfl⟩
theorem kX1_seekKeeper_52 : Dk mtX1_seekKeeper 52 (.invokevirtual 77) 3 55 := ⟨by decide +kernel, rfl⟩
theorem kX1_seekKeeper_55 : Dk mtX1_seekKeeper 55 (.if_icmp .lt 35) 3 58 := ⟨by decide +kernel, rfl⟩
theorem kX1_seekKeeper_58 : Dk mtX1_seekKeeper 58 (.aload 5) 2 60 := ⟨by decide +kernel, rfl⟩
theorem kX1_seekKeeper_60 : Dk mtX1_seekKeeper 60 (.aload_n 1) 1 61 := ⟨by decide +kernel, rfl⟩
theorem kX1_seekKeeper_61 : Dk mtX1_seekKeeper 61 (.getfield 107) 3 64 := ⟨by decide +kernel, rfl⟩
theorem kX1_seekKeeper_64 : Dk mtX1_seekKeeper 64 (.aload_n 0) 1 65 := ⟨by decide +kernel, rfl⟩
theorem kX1_seekKeeper_65 : Dk mtX1_seekKeeper 65 (.getfield 44) 3 68 := ⟨by decide +kernel, rfl⟩
theorem kX1_seekKeeper_68 : Dk mtX1_seekKeeper 68 (.invokevirtual 94) 3 71 := ⟨by decide +kernel, rfl⟩
theorem kX1_seekKeeper_71 : Dk mtX1_seekKeeper 71 (.istore 6) 2 73 := ⟨by decide +kernel, rfl⟩
theorem kX1_seekKeeper_73 : Dk mtX1_seekKeeper 73 (.iload_n 2) 1 74 := ⟨by decide +kernel, rfl⟩
theorem kX1_seekKeeper_74 : Dk mtX1_seekKeeper 74 (.iconst (-1)) 1 75 := ⟨by decide +kernel, rfl⟩
theorem kX1_seekKeeper_75 : Dk mtX1_seekKeeper 75 (.if_icmp .eq 9) 3 78 := ⟨by decide +kernel, rfl⟩
theorem kX1_seekKeeper_78 : Dk mtX1_seekKeeper 78 (.iload 6) 2 80 := ⟨by decide +kernel, rfl⟩
theorem kX1_seekKeeper_80 : Dk mtX1_seekKeeper 80 (.iload_n 3) 1 81 := ⟨by decide +kernel, rfl⟩
theorem kX1_seekKeeper_81 : Dk mtX1_seekKeeper 81 (.if_icmp .le 9) 3 84 := ⟨by decide +kernel, rfl⟩
theorem kX1_seekKeeper_84 : Dk mtX1_seekKeeper 84 (.iload 4) 2 86 := ⟨by decide +kernel, rfl⟩
theorem kX1_seekKeeper_86 : Dk mtX1_seekKeeper 86 (.istore_n 2) 1 87 := ⟨by decide +kernel, rfl⟩
theorem kX1_seekKeeper_87 : Dk mtX1_seekKeeper 87 (.iload 6) 2 89 := ⟨by decide +kernel, rfl⟩
theorem kX1_seekKeeper_89 : Dk mtX1_seekKeeper 89 (.istore_n 3) 1 90 := ⟨by decide +kernel, rfl⟩
theorem kX1_seekKeeper_90 : Dk mtX1_seekKeeper 90 (.iinc 4 1) 3 93 := ⟨by decide +kernel, rfl⟩
theorem kX1_seekKeeper_93 : Dk mtX1_seekKeeper 93 (.goto (-86)) 3 96 := ⟨by decide +kernel, rfl⟩
theorem kX1_seekKeeper_96 : Dk mtX1_seekKeeper 96 (.iload_n 2) 1 97 := ⟨by decide +kernel, rfl⟩
theorem kX1_seekKeeper_97 : Dk mtX1_seekKeeper 97 (.iconst (-1)) 1 98 := ⟨by decide +kernel, rfl⟩
theorem kX1_seekKeeper_98 : Dk mtX1_seekKeeper 98 (.if_icmp .eq 19) 3 101 := ⟨by decide +kernel, rfl⟩
theorem kX1_seekKeeper_101 : Dk mtX1_seekKeeper 101 (.aload_n 0) 1 102 := ⟨by decide +kernel, rfl⟩
theorem kX1_seekKeeper_102 : Dk mtX1_seekKeeper 102 (.aload_n 1) 1 103 := ⟨by decide +kernel, rfl⟩
theorem kX1_seekKeeper_103 : Dk mtX1_seekKeeper 103 (.iload_n 2) 1 104 := ⟨by decide +kernel, rfl⟩
theorem kX1_seekKeeper_104 : Dk mtX1_seekKeeper 104 (.invokevirtual 205) 3 107 := ⟨by decide +kernel, rfl⟩
theorem kX1_seekKeeper_107 : Dk mtX1_seekKeeper 107 (.aload_n 0) 1 108 := ⟨by decide +kernel, rfl⟩
theorem kX1_seekKeeper_108 : Dk mtX1_seekKeeper 108 (.dup) 1 109 := ⟨by decide +kernel, rfl⟩
theorem kX1_seekKeeper_109 : Dk mtX1_seekKeeper 109 (.getfield 59) 3 112 := ⟨by decide +kernel, rfl⟩
theorem kX1_seekKeeper_112 : Dk mtX1_seekKeeper 112 (.iconst 1) 1 113 := ⟨by decide +kernel, rfl⟩
theorem kX1_seekKeeper_113 : Dk mtX1_seekKeeper 113 (.iadd) 1 114 := ⟨by decide +kernel, rfl⟩
theorem kX1_seekKeeper_114 : Dk mtX1_seekKeeper 114 (.putfield 59) 3 117 := ⟨by decide +kernel, rfl⟩
theorem kX1_seekKeeper_117 : Dk mtX1_seekKeeper 117 (.return_) 1 118 := ⟨by decide +kernel, rfl⟩
theorem lmX1_227 : LkM RX1 227 mtX2_takesOthers := Or.inl (by decide +kernel)
theorem mkX2_takesOthers : MkV mtX2_takesOthers 0 := ⟨List.mem_of_getElem? (i := 558) (by decide +kernel), by decide +kernel, by decide +kernel, by decide +kernel, ⟨by decide +kernel, by decide +kernel, by decide +kernel⟩⟩
set_option maxHeartbeats 4000000 in
set_option maxRecDepth 100000 in
theorem cl_seekKeeper {l : Launch} {w : Wd} {sg : Sg} (hWr : Wr w) {c : Nat} {g : Gs} (hR : Rel sg c g) (hI : Inv g) {n : Nat} (hn : n < tn (g 5)) (h0 : gB g (nI n) 2 = 0) : M l mtX1_seekKeeper w [vR (some (1, 0, c)), vR (some (0, 0, c + 9 + n))] sg (rV (fun sg2 => Rel sg2 c (F_finds g (nI n)) ∧ Fr c sg sg2)) := by
  refine M_of [some (vR (some (1, 0, c))), some (vR (some (0, 0, c + 9 + n))), none, none, none, none, none] rfl (Nat.le_of_ble_eq_true rfl) (by decide +kernel) ?_
  intro p_ e_ s_ m_ args_ below_ meth_ c_ hC hO
  refine V_iconst hC (-1) kX1_seekKeeper_0 (by decide) ?_
  refine V_istore_n hC [some _, some _, some _, none, none, none, none] kX1_seekKeeper_1 rfl (Nat.le_of_ble_eq_true rfl) ?_
  refine V_iconst hC (0) kX1_seekKeeper_2 (by decide) ?_
  refine V_istore_n hC [some _, some _, some _, some _, none, none, none] kX1_seekKeeper_3 rfl (Nat.le_of_ble_eq_true rfl) ?_
  refine V_iconst hC (0) kX1_seekKeeper_4 (by decide) ?_
  refine V_istore hC [some _, some _, some _, some _, some _, none, none] kX1_seekKeeper_5 rfl (Nat.le_of_ble_eq_true rfl) ?_
  refine V_loop (tn (g 4)) (fun i => [some (vR (some (1, 0, c))), some (vR (some (0, 0, c + 9 + n))), some (vI (F_findsN g (nI n) i)), some (vI (if F_findsN g (nI n) i = -1 then 0 else F_worth g (F_findsN g (nI n) i) (gB g (nI n) 0))), some (vI (nI i)), none, none]) (fun i => sg) rfl rfl ?_ (fun i hi ihi => ?_)
  · refine V_iload hC kX1_seekKeeper_7 rfl ?_
    refine V_aload_n hC kX1_seekKeeper_9 rfl ?_
    refine V_getI hC 1 3 lfX1_37 kX1_seekKeeper_10 (Nat.le_of_ble_eq_true rfl) (Nat.le_of_ble_eq_true rfl) rfl ?_
    refine V_icmp_ge hC 96 kX1_seekKeeper_13 (by decide) (fun h13 => ?_) (fun h13 => absurd h13 (not_not_intro (by rw [hR.c3]; exact cnt_le hI.hc4.1)))
    refine V_iload_n hC kX1_seekKeeper_96 rfl ?_
    refine V_iconst hC (-1) kX1_seekKeeper_97 (by decide) ?_
    refine V_icmp_eq hC 117 kX1_seekKeeper_98 (by decide) (fun h98 => ?_) (fun h98 => ?_)
    · refine V_vret hC rfl kX1_seekKeeper_117 ?_
      refine ⟨by with_reducible rfl, ?_, ?_⟩
      · first
        | (rw [finds_no (by have := hI.c5.1; omega) h0 h98]; exact hR)
        | (have hR2 := hR1.putC' hC1 10 (g104 c 10 + 1) (by decide)
           rw [finds_yes (by omega) em, pB_2 _ _ h8]
           rw [hR1.c10] at hR2 ⊢
           exact hR2)
      · first
        | exact Fr.rf c sg
        | exact hF1.ups _ _ (by omega)
    · obtain ⟨m, hm, em⟩ : ∃ m, m < tn (g 4) ∧ F_findsN g (nI n) (tn (g 4)) = nI m := by
        rcases F_findsN_in g (nI n) (tn (g 4)) with e | e
        · exact absurd e h98
        · exact e
      have h6x := hI.c4.1
      have h8 : n < 8 := by have := hI.c5.1; omega
      refine V_aload_n hC kX1_seekKeeper_101 rfl ?_
      refine V_aload_n hC kX1_seekKeeper_102 rfl ?_
      refine V_iload_n hC kX1_seekKeeper_103 rfl ?_
      refine V_cV_rV hC (cl_serve hWr hR hI hn _ (Or.inr ⟨m, hm, em⟩)) mkX1_serve lmX1_205 kX1_seekKeeper_104 (Nat.le_of_ble_eq_true rfl) rfl rfl rfl (Nat.le_of_ble_eq_true rfl) ⟨(Nat.le_of_ble_eq_true rfl), (Nat.le_of_ble_eq_true rfl)⟩ ⟨rfl, rfl⟩ ⟨(Nat.le_of_ble_eq_true rfl), (Nat.le_of_ble_eq_true rfl)⟩ (fun g104 h104 => ?_)
      obtain ⟨hR1, hF1⟩ := h104
      rw [em, pB_2 _ _ h8] at hR1
      have hC1 := Cn_upd hI.cn (i := 60 + 10 * n + 2) (nI m + 1) (by omega)
      refine V_aload_n hC kX1_seekKeeper_107 rfl ?_
      refine V_dup hC kX1_seekKeeper_108 rfl ?_
      refine V_getI hC 1 10 lfX1_59 kX1_seekKeeper_109 (Nat.le_of_ble_eq_true rfl) (Nat.le_of_ble_eq_true rfl) rfl ?_
      refine V_iconst hC (1) kX1_seekKeeper_112 (by decide) ?_
      refine V_iadd hC kX1_seekKeeper_113 ?_
      refine V_putI hC 1 10 lfX1_59 kX1_seekKeeper_114 (Nat.le_of_ble_eq_true rfl) (Nat.le_of_ble_eq_true rfl) rfl rfl ⟨rfl, rfl⟩ ?_
      refine V_vret hC rfl kX1_seekKeeper_117 ?_
      refine ⟨by with_reducible rfl, ?_, ?_⟩
      · first
        | (rw [finds_no (by have := hI.c5.1; omega) h0 h98]; exact hR)
        | (have hR2 := hR1.putC' hC1 10 (g104 c 10 + 1) (by decide)
           rw [finds_yes (by omega) em, pB_2 _ _ h8]
           rw [hR1.c10] at hR2 ⊢
           exact hR2)
      · first
        | exact Fr.rf c sg
        | exact hF1.ups _ _ (by omega)
  · refine V_iload hC kX1_seekKeeper_7 rfl ?_
    refine V_aload_n hC kX1_seekKeeper_9 rfl ?_
    refine V_getI hC 1 3 lfX1_37 kX1_seekKeeper_10 (Nat.le_of_ble_eq_true rfl) (Nat.le_of_ble_eq_true rfl) rfl ?_
    refine V_icmp_ge hC 96 kX1_seekKeeper_13 (by decide) (fun h13 => absurd h13 (by rw [hR.c3]; exact cnt_lt hI.hc4.1 hi)) (fun h13 => ?_)
    refine V_aload_n hC kX1_seekKeeper_16 rfl ?_
    refine V_iload hC kX1_seekKeeper_17 rfl ?_
    refine V_cV_fR hC (cl_lightR hWr hR hI hi) mkX1_lightAt lmX1_62 kX1_seekKeeper_19 (Nat.le_of_ble_eq_true rfl) rfl rfl rfl (Nat.le_of_ble_eq_true rfl) ⟨(Nat.le_of_ble_eq_true rfl), (Nat.le_of_ble_eq_true rfl)⟩ ⟨rfl, rfl⟩ ⟨(Nat.le_of_ble_eq_true rfl), (Nat.le_of_ble_eq_true rfl)⟩ ?_
    refine V_astore hC [some _, some _, some _, some _, some _, some _, none] kX1_seekKeeper_22 rfl (Nat.le_of_ble_eq_true rfl) ?_
    refine V_aload hC kX1_seekKeeper_24 rfl ?_
    refine V_ifnull hC 90 kX1_seekKeeper_26 (by decide) (fun hq => by cases hq) (fun _ _ => ?_)
    refine V_aload hC kX1_seekKeeper_29 rfl ?_
    refine V_cV_fI hC (cl_takesOthers hWr) mkX2_takesOthers lmX1_227 kX1_seekKeeper_31 (Nat.le_of_ble_eq_true rfl) rfl rfl rfl (Nat.le_of_ble_eq_true rfl) ⟨(Nat.le_of_ble_eq_true rfl), (Nat.le_of_ble_eq_true rfl)⟩ ⟨rfl, rfl⟩ ⟨(Nat.le_of_ble_eq_true rfl), (Nat.le_of_ble_eq_true rfl)⟩ ?_
    refine V_if_eq hC 90 kX1_seekKeeper_34 (by decide) (fun h34 => ?_) (fun h34 => ?_)
    · refine V_iinc hC (_ + 1) [some _, some _, some _, some _, some _, some _, none] kX1_seekKeeper_90 rfl rfl rfl (Nat.le_of_ble_eq_true rfl) ?_
      refine V_goto hC 7 kX1_seekKeeper_93 (by decide) ?_
      rw [hR.cnt hI hi, hR.l4 hI hi, hR.l5 hI hi] at h34
      refine V_drop 5 [_, _, _, _, _, none, _] rfl ?_
      refine V_drop 6 [_, _, _, _, _, none, none] rfl ?_
      refine V_eq ?_ rfl ihi
      have e1 : F_findsN g (nI n) (i + 1) = F_findsN g (nI n) i := by rw [F_findsN, if_neg (fun z => b01e.mp h34 z.1.2)]
      rw [nI_succ, e1]
    · refine V_aload hC kX1_seekKeeper_37 rfl ?_
      refine V_aload_n hC kX1_seekKeeper_39 rfl ?_
      refine V_getI hC 0 1 lfX1_107 kX1_seekKeeper_40 (Nat.le_of_ble_eq_true rfl) (Nat.le_of_ble_eq_true rfl) rfl ?_
      refine V_aload_n hC kX1_seekKeeper_43 rfl ?_
      refine V_getI hC 1 5 lfX1_44 kX1_seekKeeper_44 (Nat.le_of_ble_eq_true rfl) (Nat.le_of_ble_eq_true rfl) rfl ?_
      refine V_cV_fI hC (cl_bright hWr _ _ (by rw [hR.b1 hI hn]; exact hR.okW hI hi (hI.bp hn))) mkX2_brightnessAt lmX1_98 kX1_seekKeeper_47 (Nat.le_of_ble_eq_true rfl) rfl rfl rfl (Nat.le_of_ble_eq_true rfl) ⟨(Nat.le_of_ble_eq_true rfl), (Nat.le_of_ble_eq_true rfl)⟩ ⟨rfl, rfl⟩ ⟨(Nat.le_of_ble_eq_true rfl), (Nat.le_of_ble_eq_true rfl)⟩ ?_
      refine V_aload_n hC kX1_seekKeeper_50 rfl ?_
      refine V_iconst hC (2) kX1_seekKeeper_51 (by decide) ?_
      refine V_cV_fI hC (cl_setR hWr hR (j := 2) (by decide) rfl) mkX1_settingOf lmX1_77 kX1_seekKeeper_52 (Nat.le_of_ble_eq_true rfl) rfl rfl rfl (Nat.le_of_ble_eq_true rfl) ⟨(Nat.le_of_ble_eq_true rfl), (Nat.le_of_ble_eq_true rfl)⟩ ⟨rfl, rfl⟩ ⟨(Nat.le_of_ble_eq_true rfl), (Nat.le_of_ble_eq_true rfl)⟩ ?_
      refine V_icmp_lt hC 90 kX1_seekKeeper_55 (by decide) (fun h55 => ?_) (fun h55 => ?_)
      · refine V_iinc hC (_ + 1) [some _, some _, some _, some _, some _, some _, none] kX1_seekKeeper_90 rfl rfl rfl (Nat.le_of_ble_eq_true rfl) ?_
        refine V_goto hC 7 kX1_seekKeeper_93 (by decide) ?_
        rw [hR.b1 hI hn, hR.bright hI hi] at h55
        refine V_drop 5 [_, _, _, _, _, none, _] rfl ?_
        refine V_drop 6 [_, _, _, _, _, none, none] rfl ?_
        refine V_eq ?_ rfl ihi
        have e1 : F_findsN g (nI n) (i + 1) = F_findsN g (nI n) i := by rw [F_findsN, if_neg (fun z => absurd z.1.1 (Int32.not_le.mpr h55))]
        rw [nI_succ, e1]
      · refine V_aload hC kX1_seekKeeper_58 rfl ?_
        refine V_aload_n hC kX1_seekKeeper_60 rfl ?_
        refine V_getI hC 0 1 lfX1_107 kX1_seekKeeper_61 (Nat.le_of_ble_eq_true rfl) (Nat.le_of_ble_eq_true rfl) rfl ?_
        refine V_aload_n hC kX1_seekKeeper_64 rfl ?_
        refine V_getI hC 1 5 lfX1_44 kX1_seekKeeper_65 (Nat.le_of_ble_eq_true rfl) (Nat.le_of_ble_eq_true rfl) rfl ?_
        refine V_cV_fI hC (cl_worth hWr _ _ (by rw [hR.b1 hI hn]; exact hR.okW hI hi (hI.bp hn))) mkX2_worthAt lmX1_94 kX1_seekKeeper_68 (Nat.le_of_ble_eq_true rfl) rfl rfl rfl (Nat.le_of_ble_eq_true rfl) ⟨(Nat.le_of_ble_eq_true rfl), (Nat.le_of_ble_eq_true rfl)⟩ ⟨rfl, rfl⟩ ⟨(Nat.le_of_ble_eq_true rfl), (Nat.le_of_ble_eq_true rfl)⟩ ?_
        refine V_nameI (fun wo e_wo => ?_)
        refine V_istore hC [some _, some _, some _, some _, some _, some _, some _] kX1_seekKeeper_71 rfl (Nat.le_of_ble_eq_true rfl) ?_
        rw [hR.b1 hI hn, hR.worth hI hi] at e_wo
        refine V_iload_n hC kX1_seekKeeper_73 rfl ?_
        refine V_iconst hC (-1) kX1_seekKeeper_74 (by decide) ?_
        refine V_icmp_eq hC 84 kX1_seekKeeper_75 (by decide) (fun h75 => ?_) (fun h75 => ?_)
        · refine V_iload hC kX1_seekKeeper_84 rfl ?_
          refine V_istore_n hC [some _, some _, some _, some _, some _, some _, some _] kX1_seekKeeper_86 rfl (Nat.le_of_ble_eq_true rfl) ?_
          refine V_iload hC kX1_seekKeeper_87 rfl ?_
          refine V_istore_n hC [some _, some _, some _, some _, some _, some _, some _] kX1_seekKeeper_89 rfl (Nat.le_of_ble_eq_true rfl) ?_
          refine V_iinc hC (_ + 1) [some _, some _, some _, some _, some _, some _, some _] kX1_seekKeeper_90 rfl rfl rfl (Nat.le_of_ble_eq_true rfl) ?_
          refine V_goto hC 7 kX1_seekKeeper_93 (by decide) ?_
          rw [hR.cnt hI hi, hR.l4 hI hi, hR.l5 hI hi] at h34
          rw [hR.b1 hI hn, hR.bright hI hi] at h55
          refine V_drop 5 [_, _, _, _, _, none, _] rfl ?_
          refine V_drop 6 [_, _, _, _, _, none, none] rfl ?_
          refine V_eq ?_ rfl ihi
          have e1 : F_findsN g (nI n) (i + 1) = nI i := by rw [F_findsN, if_pos ⟨⟨Int32.not_lt.mp h55, b01n.mp h34⟩, Or.inl h75⟩]
          rw [nI_succ, e1, if_neg (nI_m1 (by have := hI.c4.1; omega)), e_wo]
        · refine V_iload hC kX1_seekKeeper_78 rfl ?_
          refine V_iload_n hC kX1_seekKeeper_80 rfl ?_
          refine V_icmp_le hC 90 kX1_seekKeeper_81 (by decide) (fun h81 => ?_) (fun h81 => ?_)
          · refine V_iinc hC (_ + 1) [some _, some _, some _, some _, some _, some _, some _] kX1_seekKeeper_90 rfl rfl rfl (Nat.le_of_ble_eq_true rfl) ?_
            refine V_goto hC 7 kX1_seekKeeper_93 (by decide) ?_
            rw [if_neg h75, e_wo] at h81
            refine V_drop 5 [_, _, _, _, _, none, _] rfl ?_
            refine V_drop 6 [_, _, _, _, _, none, none] rfl ?_
            refine V_eq ?_ rfl ihi
            have e1 : F_findsN g (nI n) (i + 1) = F_findsN g (nI n) i := by rw [F_findsN, if_neg (fun z => z.2.elim h75 (fun q => absurd q (Int32.not_lt.mpr h81)))]
            rw [nI_succ, e1]
          · refine V_iload hC kX1_seekKeeper_84 rfl ?_
            refine V_istore_n hC [some _, some _, some _, some _, some _, some _, some _] kX1_seekKeeper_86 rfl (Nat.le_of_ble_eq_true rfl) ?_
            refine V_iload hC kX1_seekKeeper_87 rfl ?_
            refine V_istore_n hC [some _, some _, some _, some _, some _, some _, some _] kX1_seekKeeper_89 rfl (Nat.le_of_ble_eq_true rfl) ?_
            refine V_iinc hC (_ + 1) [some _, some _, some _, some _, some _, some _, some _] kX1_seekKeeper_90 rfl rfl rfl (Nat.le_of_ble_eq_true rfl) ?_
            refine V_goto hC 7 kX1_seekKeeper_93 (by decide) ?_
            rw [if_neg h75, e_wo] at h81
            rw [hR.cnt hI hi, hR.l4 hI hi, hR.l5 hI hi] at h34
            rw [hR.b1 hI hn, hR.bright hI hi] at h55
            refine V_drop 5 [_, _, _, _, _, none, _] rfl ?_
            refine V_drop 6 [_, _, _, _, _, none, none] rfl ?_
            refine V_eq ?_ rfl ihi
            have e1 : F_findsN g (nI n) (i + 1) = nI i := by rw [F_findsN, if_pos ⟨⟨Int32.not_lt.mp h55, b01n.mp h34⟩, Or.inr (Int32.not_le.mp h81)⟩]
            rw [nI_succ, e1, if_neg (nI_m1 (by have := hI.c4.1; omega)), e_wo]
def mtX1_ask : Mt := (yX1_ask, cX1_ask, 3, none, 3, 60, 0, 0)
theorem kX1_ask_0 : Dk mtX1_ask 0 (.aload_n 0) 1 1 := ⟨by decide +kernel, rfl⟩
theorem kX1_ask_1 : Dk mtX1_ask 1 (.aload_n 1) 1 2 := ⟨by decide +kernel, rfl⟩
theorem kX1_ask_2 : Dk mtX1_ask 2 (.getfield 209) 3 5 := ⟨by decide +kernel, rfl⟩
theorem kX1_ask_5 : Dk mtX1_ask 5 (.invokevirtual 62) 3 8 := ⟨by decide +kernel, rfl⟩
theorem kX1_ask_8 : Dk mtX1_ask 8 (.astore_n 2) 1 9 := ⟨by decide +kernel, rfl⟩
theorem kX1_ask_9 : Dk mtX1_ask 9 (.aload_n 2) 1 10 := ⟨by decide +kernel, rfl⟩
theorem kX1_ask_10 : Dk mtX1_ask 10 (.ifnonnull 4) 3 13 := ⟨by decide +kernel, rfl⟩
theorem kX1_ask_14 : Dk mtX1_ask 14 (.aload_n 2) 1 15 := ⟨by decide +kernel, rfl⟩
theorem kX1_ask_15 : Dk mtX1_ask 15 (.invokevirtual 212) 3 18 := ⟨by decide +kernel, rfl⟩
theorem kX1_ask_18 : Dk mtX1_ask 18 (.ifCond .ne 14) 3 21 := ⟨by decide +kernel, rfl⟩
theorem kX1_ask_21 : Dk mtX1_ask 21 (.aload_n 0) 1 22 := ⟨by decide +kernel, rfl⟩
theorem kX1_ask_22 : Dk mtX1_ask 22 (.dup) 1 23 := ⟨by decide +kernel, rfl⟩
theorem kX1_ask_23 : Dk mtX1_ask 23 (.getfield 53) 3 26 := ⟨by decide +kernel, rfl⟩
theorem kX1_ask_26 : Dk mtX1_ask 26 (.iconst 1) 1 27 := ⟨by decide +kernel, rfl⟩
theorem kX1_ask_27 : Dk mtX1_ask 27 (.iadd) 1 28 := ⟨by decide +kernel, rfl⟩
theorem kX1_ask_28 : Dk mtX1_ask 28 (.putfield 53) 3 31 := ⟨by decide +kernel, rfl⟩
theorem kX1_ask_31 : Dk mtX1_ask 31 (.return_) 1 32 := ⟨by decide +kernel, rfl⟩
theorem kX1_ask_32 : Dk mtX1_ask 32 (.aload_n 1) 1 33 := ⟨by decide +kernel, rfl⟩
theorem kX1_ask_33 : Dk mtX1_ask 33 (.getfield 209) 3 36 := ⟨by decide +kernel, rfl⟩
theorem kX1_ask_36 : Dk mtX1_ask 36 (.aload_n 1) 1 37 := ⟨by decide +kernel, rfl⟩
theorem kX1_ask_37 : Dk mtX1_ask 37 (.getfield 216) 3 40 := ⟨by decide +kernel, rfl⟩
theorem kX1_ask_40 : Dk mtX1_ask 40 (.if_icmp .ne 40) 3 43 := ⟨by decide +kernel, rfl⟩
theorem kX1_ask_43 : Dk mtX1_ask 43 (.aload_n 0) 1 44 := ⟨by decide +kernel, rfl⟩
theorem kX1_ask_44 : Dk mtX1_ask 44 (.getfield 44) 3 47 := ⟨by decide +kernel, rfl⟩
theorem kX1_ask_47 : Dk mtX1_ask 47 (.aload_n 1) 1 48 := ⟨by decide +kernel, rfl⟩
theorem kX1_ask_48 : Dk mtX1_ask 48 (.getfield 219) 3 51 := ⟨by decide +kernel, rfl⟩
theorem kX1_ask_51 : Dk mtX1_ask 51 (.isub) 1 52 := ⟨by decide +kernel, rfl⟩
theorem kX1_ask_52 : Dk mtX1_ask 52 (.aload_n 0) 1 53 := ⟨by decide +kernel, rfl⟩
theorem kX1_ask_53 : Dk mtX1_ask 53 (.iconst 3) 1 54 := ⟨by decide +kernel, rfl⟩
theorem kX1_ask_54 : Dk mtX1_ask 54 (.invokevirtual 77) 3 57 := ⟨by decide +kernel, rfl⟩
theorem kX1_ask_57 : Dk mtX1_ask 57 (.if_icmp .gt 23) 3 60 := ⟨by decide +kernel, rfl⟩
theorem kX1_ask_60 : Dk mtX1_ask 60 (.aload_n 0) 1 61 := ⟨by decide +kernel, rfl⟩
theorem kX1_ask_61 : Dk mtX1_ask 61 (.dup) 1 62 := ⟨by decide +kernel, rfl⟩
theorem kX1_ask_62 : Dk mtX1_ask 62 (.getfield 50) 3 65 := ⟨by decide +kernel, rfl⟩
theorem kX1_ask_65 : Dk mtX1_ask 65 (.iconst 1) 1 66 := ⟨by decide +kernel, rfl⟩
theorem kX1_ask_66 : Dk mtX1_ask 66 (.iadd) 1 67 := ⟨by decide +kernel, rfl⟩
theorem kX1_ask_67 : Dk mtX1_ask 67 (.putfield 50) 3 70 := ⟨by decide +kernel, rfl⟩
theorem kX1_ask_70 : Dk mtX1_ask 70 (.aload_n 1) 1 71 := ⟨by decide +kernel, rfl⟩
theorem kX1_ask_71 : Dk mtX1_ask 71 (.dup) 1 72 := ⟨by decide +kernel, rfl⟩
theorem kX1_ask_72 : Dk mtX1_ask 72 (.getfield 222) 3 75 := ⟨by decide +kernel, rfl⟩
theorem kX1_ask_75 : Dk mtX1_ask 75 (.iconst 1) 1 76 := ⟨by decide +kernel, rfl⟩
theorem kX1_ask_76 : Dk mtX1_ask 76 (.iadd) 1 77 := ⟨by decide +kernel, rfl⟩
theorem kX1_ask_77 : Dk mtX1_ask 77 (.putfield 222) 3 80 := ⟨by decide +kernel, rfl⟩
theorem kX1_ask_80 : Dk mtX1_ask 80 (.aload_n 0) 1 81 := ⟨by decide +kernel, rfl⟩
theorem kX1_ask_81 : Dk mtX1_ask 81 (.dup) 1 82 := ⟨by decide +kernel, rfl⟩
theorem kX1_ask_82 : Dk mtX1_ask 82 (.getfield 47) 3 85 := ⟨by decide +kernel, rfl⟩
theorem kX1_ask_85 : Dk mtX1_ask 85 (.iconst 1) 1 86 := ⟨by decide +kernel, rfl⟩
theorem kX1_ask_86 : Dk mtX1_ask 86 (.iadd) 1 87 := ⟨by decide +kernel, rfl⟩
theorem kX1_ask_87 : Dk mtX1_ask 87 (.putfield 47) 3 90 := ⟨by decide +kernel, rfl⟩
theorem kX1_ask_90 : Dk mtX1_ask 90 (.aload_n 1) 1 91 := ⟨by decide +kernel, rfl⟩
theorem kX1_ask_91 : Dk mtX1_ask 91 (.dup) 1 92 := ⟨by decide +kernel, rfl⟩
theorem kX1_ask_92 : Dk mtX1_ask 92 (.getfield 223) 3 95 := ⟨by decide +kernel, rfl⟩
theorem kX1_ask_95 : Dk mtX1_ask 95 (.iconst 1) 1 96 := ⟨by decide +kernel, rfl⟩
theorem kX1_ask_96 : Dk mtX1_ask 96 (.iadd) 1 97 := ⟨by decide +kernel, rfl⟩
theorem kX1_ask_97 : Dk mtX1_ask 97 (.putfield 223) 3 100 := ⟨by decide +kernel, rfl⟩
theorem kX1_ask_100 : Dk mtX1_ask 100 (.aload_n 2) 1 101 := ⟨by decide +kernel, rfl⟩
theorem kX1_ask_101 : Dk mtX1_ask 101 (.dup) 1 102 := ⟨by decide +kernel, rfl⟩
theorem kX1_ask_102 : Dk mtX1_ask 102 (.getfield 224) 3 105 := ⟨by decide +kernel, rfl⟩
theorem kX1_ask_105 : Dk mtX1_ask 105 (.iconst 1) 1 106 := ⟨by decide +kernel, rfl⟩
theorem kX1_ask_106 : Dk mtX1_ask 106 (.iadd) 1 107 := ⟨by decide +kernel, rfl⟩
theorem kX1_ask_107 : Dk mtX1_ask 107 (.putfield 224) 3 110 := ⟨by decide +kernel, rfl⟩
theorem kX1_ask_110 : Dk mtX1_ask 110 (.aload_n 1) 1 111 := ⟨by decide +kernel, rfl⟩
theorem kX1_ask_111 : Dk mtX1_ask 111 (.aload_n 1) 1 112 := ⟨by decide +kernel, rfl⟩
theorem kX1_ask_112 : Dk mtX1_ask 112 (.getfield 88) 3 115 := ⟨by decide +kernel, rfl⟩
theorem kX1_ask_115 : Dk mtX1_ask 115 (.putfield 216) 3 118 := ⟨by decide +kernel, rfl⟩
theorem kX1_ask_118 : Dk mtX1_ask 118 (.aload_n 1) 1 119 := ⟨by decide +kernel, rfl⟩
theorem kX1_ask_119 : Dk mtX1_ask 119 (.aload_n 0) 1 120 := ⟨by decide +kernel, rfl⟩
theorem kX1_ask_120 : Dk mtX1_ask 120 (.getfield 44) 3 123 := ⟨by decide +kernel, rfl⟩
theorem kX1_ask_123 : Dk mtX1_ask 123 (.putfield 219) 3 126 := ⟨by decide +kernel, rfl⟩
theorem kX1_ask_126 : Dk mtX1_ask 126 (.aload_n 0) 1 127 := ⟨by decide +kernel, rfl⟩
theorem kX1_ask_127 : Dk mtX1_ask 127 (.aload_n 1) 1 128 := ⟨by decide +kernel, rfl⟩
theorem kX1_ask_128 : Dk mtX1_ask 128 (.aload_n 1) 1 129 := ⟨by decide +kernel, rfl⟩
theorem kX1_ask_129 : Dk mtX1_ask 129 (.getfield 209) 3 132 := ⟨by decide +kernel, rfl⟩
theorem kX1_ask_132 : Dk mtX1_ask 132 (.invokevirtual 205) 3 135 := ⟨by decide +kernel, rfl⟩
theorem kX1_ask_135 : Dk mtX1_ask 135 (.aload_n 1) 1 136 := ⟨by decide +kernel, rfl⟩
theorem kX1_ask_136 : Dk mtX1_ask 136 (.iconst (-1)) 1 137 := ⟨by decide +kernel, rfl⟩
theorem kX1_ask_137 : Dk mtX1_ask 137 (.invokevirtual 196) 3 140 := ⟨by decide +kernel, rfl⟩
theorem kX1_ask_140 : Dk mtX1_ask 140 (.return_) 1 141 := ⟨by decide +kernel, rfl⟩
theorem lfX1_209 : LkF RX1 209 0 5 := Or.inr (by decide +kernel)
theorem lmX1_212 : LkM RX1 212 mtX2_takesHandedOn := Or.inl (by decide +kernel)
theorem mkX2_takesHandedOn : MkV mtX2_takesHandedOn 0 := ⟨List.mem_of_getElem? (i := 580) (by decide +kernel), by decide +kernel, by decide +kernel, by decide +kernel, ⟨by decide +kernel, by decide +kernel, by decide +kernel⟩⟩
theorem lfX1_216 : LkF RX1 216 0 7 := Or.inr (by decide +kernel)
theorem lfX1_223 : LkF RX1 223 0 9 := Or.inr (by decide +kernel)
theorem lfX1_224 : LkF RX1 224 2 8 := Or.inr (by decide +kernel)
theorem lfX1_219 : LkF RX1 219 0 8 := Or.inr (by decide +kernel)
theorem lfX1_222 : LkF RX1 222 0 10 := Or.inr (by decide +kernel)
set_option maxHeartbeats 4000000 in
set_option maxRecDepth 100000 in
theorem cl_ask {l : Launch} {w : Wd} {sg : Sg} (hWr : Wr w) {c : Nat} {g : Gs} (hR : Rel sg c g) (hI : Inv g) {n : Nat} (hn : n < tn (g 5)) {m : Nat} (hm : m < tn (g 4)) (hw : gB g (nI n) 4 = nI m + 1) : M l mtX1_ask w [vR (some (1, 0, c)), vR (some (0, 0, c + 9 + n))] sg (rV (fun sg2 => Rel sg2 c (if F_serves g (nI m) = gL g (nI m) 4 then F_inc g 9 1 else F_hands g (nI n) (nI m)) ∧ Fr c sg sg2)) := by
  refine M_of [some (vR (some (1, 0, c))), some (vR (some (0, 0, c + 9 + n))), none] rfl (Nat.le_of_ble_eq_true rfl) (by decide +kernel) ?_
  intro p_ e_ s_ m_ args_ below_ meth_ c_ hC hO
  have h5x := hI.c5.1
  have h4x := hI.c4.1
  have h8 : n < 8 := by omega
  have h6 : m < 6 := by omega
  refine V_aload_n hC kX1_ask_0 rfl ?_
  refine V_aload_n hC kX1_ask_1 rfl ?_
  refine V_getI hC 0 5 lfX1_209 kX1_ask_2 (Nat.le_of_ble_eq_true rfl) (Nat.le_of_ble_eq_true rfl) rfl ?_
  rw [hR.b5 hI hn, hw, sub1]
  refine V_cV_fR hC (cl_lightR hWr hR hI hm) mkX1_lightAt lmX1_62 kX1_ask_5 (Nat.le_of_ble_eq_true rfl) rfl rfl rfl (Nat.le_of_ble_eq_true rfl) ⟨(Nat.le_of_ble_eq_true rfl), (Nat.le_of_ble_eq_true rfl)⟩ ⟨rfl, rfl⟩ ⟨(Nat.le_of_ble_eq_true rfl), (Nat.le_of_ble_eq_true rfl)⟩ ?_
  refine V_astore_n hC [some _, some _, some _] kX1_ask_8 rfl (Nat.le_of_ble_eq_true rfl) ?_
  refine V_aload_n hC kX1_ask_9 rfl ?_
  refine V_ifnonnull hC 14 kX1_ask_10 (by decide) (fun _ _ => ?_) (fun hq => by cases hq)
  refine V_aload_n hC kX1_ask_14 rfl ?_
  refine V_cV_fI hC (cl_takesHandedOn hWr) mkX2_takesHandedOn lmX1_212 kX1_ask_15 (Nat.le_of_ble_eq_true rfl) rfl rfl rfl (Nat.le_of_ble_eq_true rfl) ⟨(Nat.le_of_ble_eq_true rfl), (Nat.le_of_ble_eq_true rfl)⟩ ⟨rfl, rfl⟩ ⟨(Nat.le_of_ble_eq_true rfl), (Nat.le_of_ble_eq_true rfl)⟩ ?_
  refine V_if_ne hC 32 kX1_ask_18 (by decide) (fun h18 => ?_) (fun h18 => ?_)
  · refine V_aload_n hC kX1_ask_32 rfl ?_
    refine V_getI hC 0 5 lfX1_209 kX1_ask_33 (Nat.le_of_ble_eq_true rfl) (Nat.le_of_ble_eq_true rfl) rfl ?_
    refine V_aload_n hC kX1_ask_36 rfl ?_
    refine V_getI hC 0 7 lfX1_216 kX1_ask_37 (Nat.le_of_ble_eq_true rfl) (Nat.le_of_ble_eq_true rfl) rfl ?_
    refine V_icmp_ne hC 80 kX1_ask_40 (by decide) (fun h40 => ?_) (fun h40 => ?_)
    · refine V_nameS (fun sg1 e_sg1 => ?_)
      obtain ⟨C, hR1, hF1, hC1, hu1, h81, hB1⟩ : askC sg c g n m sg1 := by
        first
        | exact ask_no hR hI e_sg1 (isB_a hR hI hn hw h40)
        | exact ask_no hR hI e_sg1 (isB_b hR hI hn h57)
        | exact ask_yes hR hI hn e_sg1 (isB_c hR hI hn hw h40 h57)
      have q4 : C 4 = g 4 := hu1 4 (by decide) (by omega)
      have q5 : C 5 = g 5 := hu1 5 (by decide) (by omega)
      refine V_aload_n hC kX1_ask_80 rfl ?_
      refine V_dup hC kX1_ask_81 rfl ?_
      refine V_getI hC 1 6 lfX1_47 kX1_ask_82 (Nat.le_of_ble_eq_true rfl) (Nat.le_of_ble_eq_true rfl) rfl ?_
      refine V_iconst hC (1) kX1_ask_85 (by decide) ?_
      refine V_iadd hC kX1_ask_86 ?_
      refine V_putI hC 1 6 lfX1_47 kX1_ask_87 (Nat.le_of_ble_eq_true rfl) (Nat.le_of_ble_eq_true rfl) rfl rfl ⟨rfl, rfl⟩ ?_
      refine V_nameS (fun sg2 e_sg2 => ?_)
      have hR2 : Rel sg2 c (upd C 7 (g 7 + 1)) := by
        rw [e_sg2]
        have e : sg1 c 6 = g 7 := hR1.c6.trans (hu1 7 (by decide) (by omega))
        rw [e]
        exact hR1.putC' hC1 6 _ (by decide)
      have hF2 : Fr c sg sg2 := by
        rw [e_sg2]
        exact hF1.ups _ _ (by omega)
      have hC2 : Cn (upd C 7 (g 7 + 1)) := Cn_upd hC1 _ (by decide)
      refine V_aload_n hC kX1_ask_90 rfl ?_
      refine V_dup hC kX1_ask_91 rfl ?_
      refine V_getI hC 0 9 lfX1_223 kX1_ask_92 (Nat.le_of_ble_eq_true rfl) (Nat.le_of_ble_eq_true rfl) rfl ?_
      refine V_iconst hC (1) kX1_ask_95 (by decide) ?_
      refine V_iadd hC kX1_ask_96 ?_
      refine V_putI hC 0 9 lfX1_223 kX1_ask_97 (Nat.le_of_ble_eq_true rfl) (Nat.le_of_ble_eq_true rfl) rfl rfl ⟨rfl, rfl⟩ ?_
      refine V_nameS (fun sg3 e_sg3 => ?_)
      have hR3 : Rel sg3 c (upd (upd C 7 (g 7 + 1)) (60 + 10 * n + 7) (g (60 + 10 * n + 7) + 1)) := by
        rw [e_sg3]
        have e : sg2 (c + 9 + n) 9 = g (60 + 10 * n + 7) := (hR2.2.2.2.1 n (by rw [pk_un (by decide), q5]; exact hn) 9 (by decide)).trans (by show (upd C 7 (g 7 + 1)) (60 + 10 * n + 7) = _; rw [pk_un (by omega)]; exact hu1 _ (by omega) (by omega))
        rw [e]
        exact hR2.qb9 hC2 h8 _ rfl
      have hF3 : Fr c sg sg3 := by
        rw [e_sg3]
        exact hF2.ups _ _ (by omega)
      have hC3 : Cn (upd (upd C 7 (g 7 + 1)) (60 + 10 * n + 7) (g (60 + 10 * n + 7) + 1)) := Cn_upd hC2 _ (by omega)
      refine V_aload_n hC kX1_ask_100 rfl ?_
      refine V_dup hC kX1_ask_101 rfl ?_
      refine V_getI hC 2 8 lfX1_224 kX1_ask_102 (Nat.le_of_ble_eq_true rfl) (Nat.le_of_ble_eq_true rfl) rfl ?_
      refine V_iconst hC (1) kX1_ask_105 (by decide) ?_
      refine V_iadd hC kX1_ask_106 ?_
      refine V_putI hC 2 8 lfX1_224 kX1_ask_107 (Nat.le_of_ble_eq_true rfl) (Nat.le_of_ble_eq_true rfl) rfl rfl ⟨rfl, rfl⟩ ?_
      refine V_nameS (fun sg4 e_sg4 => ?_)
      have hR4 : Rel sg4 c (upd (upd (upd C 7 (g 7 + 1)) (60 + 10 * n + 7) (g (60 + 10 * n + 7) + 1)) (12 + 8 * m + 7) (g (12 + 8 * m + 7) + 1)) := by
        rw [e_sg4]
        have e : sg3 (c + 2 + m) 8 = g (12 + 8 * m + 7) := (hR3.2.2.1 m (by rw [pk_un (by omega), pk_un (by decide), q4]; exact hm) 8 (by decide)).trans (by rw [lv_8, pk_un (by omega), pk_un (by omega)]; exact hu1 _ (by omega) (by omega))
        rw [e]
        exact hR3.pl8' hC3 h6 _
      have hF4 : Fr c sg sg4 := by
        rw [e_sg4]
        exact hF3.ups _ _ (by omega)
      have hC4 : Cn (upd (upd (upd C 7 (g 7 + 1)) (60 + 10 * n + 7) (g (60 + 10 * n + 7) + 1)) (12 + 8 * m + 7) (g (12 + 8 * m + 7) + 1)) := Cn_upd hC3 _ (by omega)
      refine V_aload_n hC kX1_ask_110 rfl ?_
      refine V_aload_n hC kX1_ask_111 rfl ?_
      refine V_getI hC 0 3 lfX1_88 kX1_ask_112 (Nat.le_of_ble_eq_true rfl) (Nat.le_of_ble_eq_true rfl) rfl ?_
      refine V_putI hC 0 7 lfX1_216 kX1_ask_115 (Nat.le_of_ble_eq_true rfl) (Nat.le_of_ble_eq_true rfl) rfl rfl ⟨rfl, rfl⟩ ?_
      refine V_nameS (fun sg5 e_sg5 => ?_)
      have hR5 : Rel sg5 c (upd (upd (upd (upd C 7 (g 7 + 1)) (60 + 10 * n + 7) (g (60 + 10 * n + 7) + 1)) (12 + 8 * m + 7) (g (12 + 8 * m + 7) + 1)) (60 + 10 * n + 6) (g (60 + 10 * n + 2))) := by
        rw [e_sg5]
        have e : sg4 (c + 9 + n) 3 = g (60 + 10 * n + 2) - 1 := (hR4.2.2.2.1 n (by rw [pk_un (by omega), pk_un (by omega), pk_un (by decide), q5]; exact hn) 3 (by decide)).trans (by show (upd (upd (upd C 7 (g 7 + 1)) (60 + 10 * n + 7) (g (60 + 10 * n + 7) + 1)) (12 + 8 * m + 7) (g (12 + 8 * m + 7) + 1)) (60 + 10 * n + 2) - 1 = _; rw [pk_un (by omega), pk_un (by omega), pk_un (by omega), hu1 _ (by omega) (by omega)])
        rw [e]
        exact hR4.qb7 hC4 h8 _ rfl
      have hF5 : Fr c sg sg5 := by
        rw [e_sg5]
        exact hF4.ups _ _ (by omega)
      have hC5 : Cn (upd (upd (upd (upd C 7 (g 7 + 1)) (60 + 10 * n + 7) (g (60 + 10 * n + 7) + 1)) (12 + 8 * m + 7) (g (12 + 8 * m + 7) + 1)) (60 + 10 * n + 6) (g (60 + 10 * n + 2))) := Cn_upd hC4 _ (by omega)
      refine V_aload_n hC kX1_ask_118 rfl ?_
      refine V_aload_n hC kX1_ask_119 rfl ?_
      refine V_getI hC 1 5 lfX1_44 kX1_ask_120 (Nat.le_of_ble_eq_true rfl) (Nat.le_of_ble_eq_true rfl) rfl ?_
      refine V_putI hC 0 8 lfX1_219 kX1_ask_123 (Nat.le_of_ble_eq_true rfl) (Nat.le_of_ble_eq_true rfl) rfl rfl ⟨rfl, rfl⟩ ?_
      refine V_nameS (fun sg6 e_sg6 => ?_)
      have hR6 : Rel sg6 c (upd (upd (upd (upd (upd C 7 (g 7 + 1)) (60 + 10 * n + 7) (g (60 + 10 * n + 7) + 1)) (12 + 8 * m + 7) (g (12 + 8 * m + 7) + 1)) (60 + 10 * n + 6) (g (60 + 10 * n + 2))) (60 + 10 * n + 9) (g 6)) := by
        rw [e_sg6]
        have e : sg5 c 5 = g 6 := hR5.c5.trans (by rw [pk_un (by omega), pk_un (by omega), pk_un (by omega), pk_un (by decide)]; exact hu1 _ (by decide) (by omega))
        rw [e]
        exact hR5.qb8 hC5 h8 _ rfl
      have hF6 : Fr c sg sg6 := by
        rw [e_sg6]
        exact hF5.ups _ _ (by omega)
      have hI6 : Inv (upd (upd (upd (upd (upd C 7 (g 7 + 1)) (60 + 10 * n + 7) (g (60 + 10 * n + 7) + 1)) (12 + 8 * m + 7) (g (12 + 8 * m + 7) + 1)) (60 + 10 * n + 6) (g (60 + 10 * n + 2))) (60 + 10 * n + 9) (g 6)) := Inv_ask hI hn hm hu1 _ _ _ _ 0
      have hn6 : n < tn ((upd (upd (upd (upd (upd C 7 (g 7 + 1)) (60 + 10 * n + 7) (g (60 + 10 * n + 7) + 1)) (12 + 8 * m + 7) (g (12 + 8 * m + 7) + 1)) (60 + 10 * n + 6) (g (60 + 10 * n + 2))) (60 + 10 * n + 9) (g 6)) 5) := by rw [pk_un (by omega), pk_un (by omega), pk_un (by omega), pk_un (by omega), pk_un (by decide), q5]; exact hn
      have hm6 : m < tn ((upd (upd (upd (upd (upd C 7 (g 7 + 1)) (60 + 10 * n + 7) (g (60 + 10 * n + 7) + 1)) (12 + 8 * m + 7) (g (12 + 8 * m + 7) + 1)) (60 + 10 * n + 6) (g (60 + 10 * n + 2))) (60 + 10 * n + 9) (g 6)) 4) := by rw [pk_un (by omega), pk_un (by omega), pk_un (by omega), pk_un (by omega), pk_un (by decide), q4]; exact hm
      have ew : sg6 (c + 9 + n) 5 = nI m := (hR6.2.2.2.1 n hn6 5 (by decide)).trans (by show (upd (upd (upd (upd (upd C 7 (g 7 + 1)) (60 + 10 * n + 7) (g (60 + 10 * n + 7) + 1)) (12 + 8 * m + 7) (g (12 + 8 * m + 7) + 1)) (60 + 10 * n + 6) (g (60 + 10 * n + 2))) (60 + 10 * n + 9) (g 6)) (60 + 10 * n + 4) - 1 = _; rw [pk_un (by omega), pk_un (by omega), pk_un (by omega), pk_un (by omega), pk_un (by omega), hu1 _ (by omega) (by omega), ← gB_4 g h8, hw, sub1])
      refine V_aload_n hC kX1_ask_126 rfl ?_
      refine V_aload_n hC kX1_ask_127 rfl ?_
      refine V_aload_n hC kX1_ask_128 rfl ?_
      refine V_getI hC 0 5 lfX1_209 kX1_ask_129 (Nat.le_of_ble_eq_true rfl) (Nat.le_of_ble_eq_true rfl) rfl ?_
      rw [ew]
      refine V_cV_rV hC (cl_serve hWr hR6 hI6 hn6 _ (Or.inr ⟨m, hm6, rfl⟩)) mkX1_serve lmX1_205 kX1_ask_132 (Nat.le_of_ble_eq_true rfl) rfl rfl rfl (Nat.le_of_ble_eq_true rfl) ⟨(Nat.le_of_ble_eq_true rfl), (Nat.le_of_ble_eq_true rfl)⟩ ⟨rfl, rfl⟩ ⟨(Nat.le_of_ble_eq_true rfl), (Nat.le_of_ble_eq_true rfl)⟩ (fun g132 h132 => ?_)
      obtain ⟨hR7, hF7⟩ := h132
      rw [pB_2 _ _ h8] at hR7
      have hC7 := Cn_upd hI6.cn (i := 60 + 10 * n + 2) (nI m + 1) (by omega)
      refine V_aload_n hC kX1_ask_135 rfl ?_
      refine V_iconst hC (-1) kX1_ask_136 (by decide) ?_
      refine V_cV_fV hC (cl_wishFor hWr _) mkX0_wishFor lmX1_196 kX1_ask_137 (Nat.le_of_ble_eq_true rfl) rfl rfl rfl (Nat.le_of_ble_eq_true rfl) ⟨(Nat.le_of_ble_eq_true rfl), (Nat.le_of_ble_eq_true rfl)⟩ ⟨rfl, rfl⟩ ⟨(Nat.le_of_ble_eq_true rfl), (Nat.le_of_ble_eq_true rfl)⟩ ?_
      refine V_vret hC rfl kX1_ask_140 ?_
      have hnf : ¬ F_serves g (nI m) = gL g (nI m) 4 := by
        rw [hR.cnt hI hm, hR.l4 hI hm] at h18
        exact (hI.cap hm).mpr (b01n.mp h18)
      refine ⟨by with_reducible rfl, ?_, ((hF6.tr hF7)).upr _ (by omega)⟩
      rw [if_neg hnf, hands_eq h8 h6 rfl hu1 h81 hB1, if_pos rfl]
      exact hR7.wishFor hC7 h8 rfl
    · refine V_aload_n hC kX1_ask_43 rfl ?_
      refine V_getI hC 1 5 lfX1_44 kX1_ask_44 (Nat.le_of_ble_eq_true rfl) (Nat.le_of_ble_eq_true rfl) rfl ?_
      refine V_aload_n hC kX1_ask_47 rfl ?_
      refine V_getI hC 0 8 lfX1_219 kX1_ask_48 (Nat.le_of_ble_eq_true rfl) (Nat.le_of_ble_eq_true rfl) rfl ?_
      refine V_isub hC kX1_ask_51 ?_
      refine V_aload_n hC kX1_ask_52 rfl ?_
      refine V_iconst hC (3) kX1_ask_53 (by decide) ?_
      refine V_cV_fI hC (cl_setR hWr hR (j := 3) (by decide) rfl) mkX1_settingOf lmX1_77 kX1_ask_54 (Nat.le_of_ble_eq_true rfl) rfl rfl rfl (Nat.le_of_ble_eq_true rfl) ⟨(Nat.le_of_ble_eq_true rfl), (Nat.le_of_ble_eq_true rfl)⟩ ⟨rfl, rfl⟩ ⟨(Nat.le_of_ble_eq_true rfl), (Nat.le_of_ble_eq_true rfl)⟩ ?_
      refine V_icmp_gt hC 80 kX1_ask_57 (by decide) (fun h57 => ?_) (fun h57 => ?_)
      · refine V_nameS (fun sg1 e_sg1 => ?_)
        obtain ⟨C, hR1, hF1, hC1, hu1, h81, hB1⟩ : askC sg c g n m sg1 := by
          first
          | exact ask_no hR hI e_sg1 (isB_a hR hI hn hw h40)
          | exact ask_no hR hI e_sg1 (isB_b hR hI hn h57)
          | exact ask_yes hR hI hn e_sg1 (isB_c hR hI hn hw h40 h57)
        have q4 : C 4 = g 4 := hu1 4 (by decide) (by omega)
        have q5 : C 5 = g 5 := hu1 5 (by decide) (by omega)
        refine V_aload_n hC kX1_ask_80 rfl ?_
        refine V_dup hC kX1_ask_81 rfl ?_
        refine V_getI hC 1 6 lfX1_47 kX1_ask_82 (Nat.le_of_ble_eq_true rfl) (Nat.le_of_ble_eq_true rfl) rfl ?_
        refine V_iconst hC (1) kX1_ask_85 (by decide) ?_
        refine V_iadd hC kX1_ask_86 ?_
        refine V_putI hC 1 6 lfX1_47 kX1_ask_87 (Nat.le_of_ble_eq_true rfl) (Nat.le_of_ble_eq_true rfl) rfl rfl ⟨rfl, rfl⟩ ?_
        refine V_nameS (fun sg2 e_sg2 => ?_)
        have hR2 : Rel sg2 c (upd C 7 (g 7 + 1)) := by
          rw [e_sg2]
          have e : sg1 c 6 = g 7 := hR1.c6.trans (hu1 7 (by decide) (by omega))
          rw [e]
          exact hR1.putC' hC1 6 _ (by decide)
        have hF2 : Fr c sg sg2 := by
          rw [e_sg2]
          exact hF1.ups _ _ (by omega)
        have hC2 : Cn (upd C 7 (g 7 + 1)) := Cn_upd hC1 _ (by decide)
        refine V_aload_n hC kX1_ask_90 rfl ?_
        refine V_dup hC kX1_ask_91 rfl ?_
        refine V_getI hC 0 9 lfX1_223 kX1_ask_92 (Nat.le_of_ble_eq_true rfl) (Nat.le_of_ble_eq_true rfl) rfl ?_
        refine V_iconst hC (1) kX1_ask_95 (by decide) ?_
        refine V_iadd hC kX1_ask_96 ?_
        refine V_putI hC 0 9 lfX1_223 kX1_ask_97 (Nat.le_of_ble_eq_true rfl) (Nat.le_of_ble_eq_true rfl) rfl rfl ⟨rfl, rfl⟩ ?_
        refine V_nameS (fun sg3 e_sg3 => ?_)
        have hR3 : Rel sg3 c (upd (upd C 7 (g 7 + 1)) (60 + 10 * n + 7) (g (60 + 10 * n + 7) + 1)) := by
          rw [e_sg3]
          have e : sg2 (c + 9 + n) 9 = g (60 + 10 * n + 7) := (hR2.2.2.2.1 n (by rw [pk_un (by decide), q5]; exact hn) 9 (by decide)).trans (by show (upd C 7 (g 7 + 1)) (60 + 10 * n + 7) = _; rw [pk_un (by omega)]; exact hu1 _ (by omega) (by omega))
          rw [e]
          exact hR2.qb9 hC2 h8 _ rfl
        have hF3 : Fr c sg sg3 := by
          rw [e_sg3]
          exact hF2.ups _ _ (by omega)
        have hC3 : Cn (upd (upd C 7 (g 7 + 1)) (60 + 10 * n + 7) (g (60 + 10 * n + 7) + 1)) := Cn_upd hC2 _ (by omega)
        refine V_aload_n hC kX1_ask_100 rfl ?_
        refine V_dup hC kX1_ask_101 rfl ?_
        refine V_getI hC 2 8 lfX1_224 kX1_ask_102 (Nat.le_of_ble_eq_true rfl) (Nat.le_of_ble_eq_true rfl) rfl ?_
        refine V_iconst hC (1) kX1_ask_105 (by decide) ?_
        refine V_iadd hC kX1_ask_106 ?_
        refine V_putI hC 2 8 lfX1_224 kX1_ask_107 (Nat.le_of_ble_eq_true rfl) (Nat.le_of_ble_eq_true rfl) rfl rfl ⟨rfl, rfl⟩ ?_
        refine V_nameS (fun sg4 e_sg4 => ?_)
        have hR4 : Rel sg4 c (upd (upd (upd C 7 (g 7 + 1)) (60 + 10 * n + 7) (g (60 + 10 * n + 7) + 1)) (12 + 8 * m + 7) (g (12 + 8 * m + 7) + 1)) := by
          rw [e_sg4]
          have e : sg3 (c + 2 + m) 8 = g (12 + 8 * m + 7) := (hR3.2.2.1 m (by rw [pk_un (by omega), pk_un (by decide), q4]; exact hm) 8 (by decide)).trans (by rw [lv_8, pk_un (by omega), pk_un (by omega)]; exact hu1 _ (by omega) (by omega))
          rw [e]
          exact hR3.pl8' hC3 h6 _
        have hF4 : Fr c sg sg4 := by
          rw [e_sg4]
          exact hF3.ups _ _ (by omega)
        have hC4 : Cn (upd (upd (upd C 7 (g 7 + 1)) (60 + 10 * n + 7) (g (60 + 10 * n + 7) + 1)) (12 + 8 * m + 7) (g (12 + 8 * m + 7) + 1)) := Cn_upd hC3 _ (by omega)
        refine V_aload_n hC kX1_ask_110 rfl ?_
        refine V_aload_n hC kX1_ask_111 rfl ?_
        refine V_getI hC 0 3 lfX1_88 kX1_ask_112 (Nat.le_of_ble_eq_true rfl) (Nat.le_of_ble_eq_true rfl) rfl ?_
        refine V_putI hC 0 7 lfX1_216 kX1_ask_115 (Nat.le_of_ble_eq_true rfl) (Nat.le_of_ble_eq_true rfl) rfl rfl ⟨rfl, rfl⟩ ?_
        refine V_nameS (fun sg5 e_sg5 => ?_)
        have hR5 : Rel sg5 c (upd (upd (upd (upd C 7 (g 7 + 1)) (60 + 10 * n + 7) (g (60 + 10 * n + 7) + 1)) (12 + 8 * m + 7) (g (12 + 8 * m + 7) + 1)) (60 + 10 * n + 6) (g (60 + 10 * n + 2))) := by
          rw [e_sg5]
          have e : sg4 (c + 9 + n) 3 = g (60 + 10 * n + 2) - 1 := (hR4.2.2.2.1 n (by rw [pk_un (by omega), pk_un (by omega), pk_un (by decide), q5]; exact hn) 3 (by decide)).trans (by show (upd (upd (upd C 7 (g 7 + 1)) (60 + 10 * n + 7) (g (60 + 10 * n + 7) + 1)) (12 + 8 * m + 7) (g (12 + 8 * m + 7) + 1)) (60 + 10 * n + 2) - 1 = _; rw [pk_un (by omega), pk_un (by omega), pk_un (by omega), hu1 _ (by omega) (by omega)])
          rw [e]
          exact hR4.qb7 hC4 h8 _ rfl
        have hF5 : Fr c sg sg5 := by
          rw [e_sg5]
          exact hF4.ups _ _ (by omega)
        have hC5 : Cn (upd (upd (upd (upd C 7 (g 7 + 1)) (60 + 10 * n + 7) (g (60 + 10 * n + 7) + 1)) (12 + 8 * m + 7) (g (12 + 8 * m + 7) + 1)) (60 + 10 * n + 6) (g (60 + 10 * n + 2))) := Cn_upd hC4 _ (by omega)
        refine V_aload_n hC kX1_ask_118 rfl ?_
        refine V_aload_n hC kX1_ask_119 rfl ?_
        refine V_getI hC 1 5 lfX1_44 kX1_ask_120 (Nat.le_of_ble_eq_true rfl) (Nat.le_of_ble_eq_true rfl) rfl ?_
        refine V_putI hC 0 8 lfX1_219 kX1_ask_123 (Nat.le_of_ble_eq_true rfl) (Nat.le_of_ble_eq_true rfl) rfl rfl ⟨rfl, rfl⟩ ?_
        refine V_nameS (fun sg6 e_sg6 => ?_)
        have hR6 : Rel sg6 c (upd (upd (upd (upd (upd C 7 (g 7 + 1)) (60 + 10 * n + 7) (g (60 + 10 * n + 7) + 1)) (12 + 8 * m + 7) (g (12 + 8 * m + 7) + 1)) (60 + 10 * n + 6) (g (60 + 10 * n + 2))) (60 + 10 * n + 9) (g 6)) := by
          rw [e_sg6]
          have e : sg5 c 5 = g 6 := hR5.c5.trans (by rw [pk_un (by omega), pk_un (by omega), pk_un (by omega), pk_un (by decide)]; exact hu1 _ (by decide) (by omega))
          rw [e]
          exact hR5.qb8 hC5 h8 _ rfl
        have hF6 : Fr c sg sg6 := by
          rw [e_sg6]
          exact hF5.ups _ _ (by omega)
        have hI6 : Inv (upd (upd (upd (upd (upd C 7 (g 7 + 1)) (60 + 10 * n + 7) (g (60 + 10 * n + 7) + 1)) (12 + 8 * m + 7) (g (12 + 8 * m + 7) + 1)) (60 + 10 * n + 6) (g (60 + 10 * n + 2))) (60 + 10 * n + 9) (g 6)) := Inv_ask hI hn hm hu1 _ _ _ _ 0
        have hn6 : n < tn ((upd (upd (upd (upd (upd C 7 (g 7 + 1)) (60 + 10 * n + 7) (g (60 + 10 * n + 7) + 1)) (12 + 8 * m + 7) (g (12 + 8 * m + 7) + 1)) (60 + 10 * n + 6) (g (60 + 10 * n + 2))) (60 + 10 * n + 9) (g 6)) 5) := by rw [pk_un (by omega), pk_un (by omega), pk_un (by omega), pk_un (by omega), pk_un (by decide), q5]; exact hn
        have hm6 : m < tn ((upd (upd (upd (upd (upd C 7 (g 7 + 1)) (60 + 10 * n + 7) (g (60 + 10 * n + 7) + 1)) (12 + 8 * m + 7) (g (12 + 8 * m + 7) + 1)) (60 + 10 * n + 6) (g (60 + 10 * n + 2))) (60 + 10 * n + 9) (g 6)) 4) := by rw [pk_un (by omega), pk_un (by omega), pk_un (by omega), pk_un (by omega), pk_un (by decide), q4]; exact hm
        have ew : sg6 (c + 9 + n) 5 = nI m := (hR6.2.2.2.1 n hn6 5 (by decide)).trans (by show (upd (upd (upd (upd (upd C 7 (g 7 + 1)) (60 + 10 * n + 7) (g (60 + 10 * n + 7) + 1)) (12 + 8 * m + 7) (g (12 + 8 * m + 7) + 1)) (60 + 10 * n + 6) (g (60 + 10 * n + 2))) (60 + 10 * n + 9) (g 6)) (60 + 10 * n + 4) - 1 = _; rw [pk_un (by omega), pk_un (by omega), pk_un (by omega), pk_un (by omega), pk_un (by omega), hu1 _ (by omega) (by omega), ← gB_4 g h8, hw, sub1])
        refine V_aload_n hC kX1_ask_126 rfl ?_
        refine V_aload_n hC kX1_ask_127 rfl ?_
        refine V_aload_n hC kX1_ask_128 rfl ?_
        refine V_getI hC 0 5 lfX1_209 kX1_ask_129 (Nat.le_of_ble_eq_true rfl) (Nat.le_of_ble_eq_true rfl) rfl ?_
        rw [ew]
        refine V_cV_rV hC (cl_serve hWr hR6 hI6 hn6 _ (Or.inr ⟨m, hm6, rfl⟩)) mkX1_serve lmX1_205 kX1_ask_132 (Nat.le_of_ble_eq_true rfl) rfl rfl rfl (Nat.le_of_ble_eq_true rfl) ⟨(Nat.le_of_ble_eq_true rfl), (Nat.le_of_ble_eq_true rfl)⟩ ⟨rfl, rfl⟩ ⟨(Nat.le_of_ble_eq_true rfl), (Nat.le_of_ble_eq_true rfl)⟩ (fun g132 h132 => ?_)
        obtain ⟨hR7, hF7⟩ := h132
        rw [pB_2 _ _ h8] at hR7
        have hC7 := Cn_upd hI6.cn (i := 60 + 10 * n + 2) (nI m + 1) (by omega)
        refine V_aload_n hC kX1_ask_135 rfl ?_
        refine V_iconst hC (-1) kX1_ask_136 (by decide) ?_
        refine V_cV_fV hC (cl_wishFor hWr _) mkX0_wishFor lmX1_196 kX1_ask_137 (Nat.le_of_ble_eq_true rfl) rfl rfl rfl (Nat.le_of_ble_eq_true rfl) ⟨(Nat.le_of_ble_eq_true rfl), (Nat.le_of_ble_eq_true rfl)⟩ ⟨rfl, rfl⟩ ⟨(Nat.le_of_ble_eq_true rfl), (Nat.le_of_ble_eq_true rfl)⟩ ?_
        refine V_vret hC rfl kX1_ask_140 ?_
        have hnf : ¬ F_serves g (nI m) = gL g (nI m) 4 := by
          rw [hR.cnt hI hm, hR.l4 hI hm] at h18
          exact (hI.cap hm).mpr (b01n.mp h18)
        refine ⟨by with_reducible rfl, ?_, ((hF6.tr hF7)).upr _ (by omega)⟩
        rw [if_neg hnf, hands_eq h8 h6 rfl hu1 h81 hB1, if_pos rfl]
        exact hR7.wishFor hC7 h8 rfl
      · refine V_aload_n hC kX1_ask_60 rfl ?_
        refine V_dup hC kX1_ask_61 rfl ?_
        refine V_getI hC 1 7 lfX1_50 kX1_ask_62 (Nat.le_of_ble_eq_true rfl) (Nat.le_of_ble_eq_true rfl) rfl ?_
        refine V_iconst hC (1) kX1_ask_65 (by decide) ?_
        refine V_iadd hC kX1_ask_66 ?_
        refine V_putI hC 1 7 lfX1_50 kX1_ask_67 (Nat.le_of_ble_eq_true rfl) (Nat.le_of_ble_eq_true rfl) rfl rfl ⟨rfl, rfl⟩ ?_
        refine V_aload_n hC kX1_ask_70 rfl ?_
        refine V_dup hC kX1_ask_71 rfl ?_
        refine V_getI hC 0 10 lfX1_222 kX1_ask_72 (Nat.le_of_ble_eq_true rfl) (Nat.le_of_ble_eq_true rfl) rfl ?_
        refine V_iconst hC (1) kX1_ask_75 (by decide) ?_
        refine V_iadd hC kX1_ask_76 ?_
        refine V_putI hC 0 10 lfX1_222 kX1_ask_77 (Nat.le_of_ble_eq_true rfl) (Nat.le_of_ble_eq_true rfl) rfl rfl ⟨rfl, rfl⟩ ?_
        refine V_nameS (fun sg1 e_sg1 => ?_)
        obtain ⟨C, hR1, hF1, hC1, hu1, h81, hB1⟩ : askC sg c g n m sg1 := by
          first
          | exact ask_no hR hI e_sg1 (isB_a hR hI hn hw h40)
          | exact ask_no hR hI e_sg1 (isB_b hR hI hn h57)
          | exact ask_yes hR hI hn e_sg1 (isB_c hR hI hn hw h40 h57)
        have q4 : C 4 = g 4 := hu1 4 (by decide) (by omega)
        have q5 : C 5 = g 5 := hu1 5 (by decide) (by omega)
        refine V_aload_n hC kX1_ask_80 rfl ?_
        refine V_dup hC kX1_ask_81 rfl ?_
        refine V_getI hC 1 6 lfX1_47 kX1_ask_82 (Nat.le_of_ble_eq_true rfl) (Nat.le_of_ble_eq_true rfl) rfl ?_
        refine V_iconst hC (1) kX1_ask_85 (by decide) ?_
        refine V_iadd hC kX1_ask_86 ?_
        refine V_putI hC 1 6 lfX1_47 kX1_ask_87 (Nat.le_of_ble_eq_true rfl) (Nat.le_of_ble_eq_true rfl) rfl rfl ⟨rfl, rfl⟩ ?_
        refine V_nameS (fun sg2 e_sg2 => ?_)
        have hR2 : Rel sg2 c (upd C 7 (g 7 + 1)) := by
          rw [e_sg2]
          have e : sg1 c 6 = g 7 := hR1.c6.trans (hu1 7 (by decide) (by omega))
          rw [e]
          exact hR1.putC' hC1 6 _ (by decide)
        have hF2 : Fr c sg sg2 := by
          rw [e_sg2]
          exact hF1.ups _ _ (by omega)
        have hC2 : Cn (upd C 7 (g 7 + 1)) := Cn_upd hC1 _ (by decide)
        refine V_aload_n hC kX1_ask_90 rfl ?_
        refine V_dup hC kX1_ask_91 rfl ?_
        refine V_getI hC 0 9 lfX1_223 kX1_ask_92 (Nat.le_of_ble_eq_true rfl) (Nat.le_of_ble_eq_true rfl) rfl ?_
        refine V_iconst hC (1) kX1_ask_95 (by decide) ?_
        refine V_iadd hC kX1_ask_96 ?_
        refine V_putI hC 0 9 lfX1_223 kX1_ask_97 (Nat.le_of_ble_eq_true rfl) (Nat.le_of_ble_eq_true rfl) rfl rfl ⟨rfl, rfl⟩ ?_
        refine V_nameS (fun sg3 e_sg3 => ?_)
        have hR3 : Rel sg3 c (upd (upd C 7 (g 7 + 1)) (60 + 10 * n + 7) (g (60 + 10 * n + 7) + 1)) := by
          rw [e_sg3]
          have e : sg2 (c + 9 + n) 9 = g (60 + 10 * n + 7) := (hR2.2.2.2.1 n (by rw [pk_un (by decide), q5]; exact hn) 9 (by decide)).trans (by show (upd C 7 (g 7 + 1)) (60 + 10 * n + 7) = _; rw [pk_un (by omega)]; exact hu1 _ (by omega) (by omega))
          rw [e]
          exact hR2.qb9 hC2 h8 _ rfl
        have hF3 : Fr c sg sg3 := by
          rw [e_sg3]
          exact hF2.ups _ _ (by omega)
        have hC3 : Cn (upd (upd C 7 (g 7 + 1)) (60 + 10 * n + 7) (g (60 + 10 * n + 7) + 1)) := Cn_upd hC2 _ (by omega)
        refine V_aload_n hC kX1_ask_100 rfl ?_
        refine V_dup hC kX1_ask_101 rfl ?_
        refine V_getI hC 2 8 lfX1_224 kX1_ask_102 (Nat.le_of_ble_eq_true rfl) (Nat.le_of_ble_eq_true rfl) rfl ?_
        refine V_iconst hC (1) kX1_ask_105 (by decide) ?_
        refine V_iadd hC kX1_ask_106 ?_
        refine V_putI hC 2 8 lfX1_224 kX1_ask_107 (Nat.le_of_ble_eq_true rfl) (Nat.le_of_ble_eq_true rfl) rfl rfl ⟨rfl, rfl⟩ ?_
        refine V_nameS (fun sg4 e_sg4 => ?_)
        have hR4 : Rel sg4 c (upd (upd (upd C 7 (g 7 + 1)) (60 + 10 * n + 7) (g (60 + 10 * n + 7) + 1)) (12 + 8 * m + 7) (g (12 + 8 * m + 7) + 1)) := by
          rw [e_sg4]
          have e : sg3 (c + 2 + m) 8 = g (12 + 8 * m + 7) := (hR3.2.2.1 m (by rw [pk_un (by omega), pk_un (by decide), q4]; exact hm) 8 (by decide)).trans (by rw [lv_8, pk_un (by omega), pk_un (by omega)]; exact hu1 _ (by omega) (by omega))
          rw [e]
          exact hR3.pl8' hC3 h6 _
        have hF4 : Fr c sg sg4 := by
          rw [e_sg4]
          exact hF3.ups _ _ (by omega)
        have hC4 : Cn (upd (upd (upd C 7 (g 7 + 1)) (60 + 10 * n + 7) (g (60 + 10 * n + 7) + 1)) (12 + 8 * m + 7) (g (12 + 8 * m + 7) + 1)) := Cn_upd hC3 _ (by omega)
        refine V_aload_n hC kX1_ask_110 rfl ?_
        refine V_aload_n hC kX1_ask_111 rfl ?_
        refine V_getI hC 0 3 lfX1_88 kX1_ask_112 (Nat.le_of_ble_eq_true rfl) (Nat.le_of_ble_eq_true rfl) rfl ?_
        refine V_putI hC 0 7 lfX1_216 kX1_ask_115 (Nat.le_of_ble_eq_true rfl) (Nat.le_of_ble_eq_true rfl) rfl rfl ⟨rfl, rfl⟩ ?_
        refine V_nameS (fun sg5 e_sg5 => ?_)
        have hR5 : Rel sg5 c (upd (upd (upd (upd C 7 (g 7 + 1)) (60 + 10 * n + 7) (g (60 + 10 * n + 7) + 1)) (12 + 8 * m + 7) (g (12 + 8 * m + 7) + 1)) (60 + 10 * n + 6) (g (60 + 10 * n + 2))) := by
          rw [e_sg5]
          have e : sg4 (c + 9 + n) 3 = g (60 + 10 * n + 2) - 1 := (hR4.2.2.2.1 n (by rw [pk_un (by omega), pk_un (by omega), pk_un (by decide), q5]; exact hn) 3 (by decide)).trans (by show (upd (upd (upd C 7 (g 7 + 1)) (60 + 10 * n + 7) (g (60 + 10 * n + 7) + 1)) (12 + 8 * m + 7) (g (12 + 8 * m + 7) + 1)) (60 + 10 * n + 2) - 1 = _; rw [pk_un (by omega), pk_un (by omega), pk_un (by omega), hu1 _ (by omega) (by omega)])
          rw [e]
          exact hR4.qb7 hC4 h8 _ rfl
        have hF5 : Fr c sg sg5 := by
          rw [e_sg5]
          exact hF4.ups _ _ (by omega)
        have hC5 : Cn (upd (upd (upd (upd C 7 (g 7 + 1)) (60 + 10 * n + 7) (g (60 + 10 * n + 7) + 1)) (12 + 8 * m + 7) (g (12 + 8 * m + 7) + 1)) (60 + 10 * n + 6) (g (60 + 10 * n + 2))) := Cn_upd hC4 _ (by omega)
        refine V_aload_n hC kX1_ask_118 rfl ?_
        refine V_aload_n hC kX1_ask_119 rfl ?_
        refine V_getI hC 1 5 lfX1_44 kX1_ask_120 (Nat.le_of_ble_eq_true rfl) (Nat.le_of_ble_eq_true rfl) rfl ?_
        refine V_putI hC 0 8 lfX1_219 kX1_ask_123 (Nat.le_of_ble_eq_true rfl) (Nat.le_of_ble_eq_true rfl) rfl rfl ⟨rfl, rfl⟩ ?_
        refine V_nameS (fun sg6 e_sg6 => ?_)
        have hR6 : Rel sg6 c (upd (upd (upd (upd (upd C 7 (g 7 + 1)) (60 + 10 * n + 7) (g (60 + 10 * n + 7) + 1)) (12 + 8 * m + 7) (g (12 + 8 * m + 7) + 1)) (60 + 10 * n + 6) (g (60 + 10 * n + 2))) (60 + 10 * n + 9) (g 6)) := by
          rw [e_sg6]
          have e : sg5 c 5 = g 6 := hR5.c5.trans (by rw [pk_un (by omega), pk_un (by omega), pk_un (by omega), pk_un (by decide)]; exact hu1 _ (by decide) (by omega))
          rw [e]
          exact hR5.qb8 hC5 h8 _ rfl
        have hF6 : Fr c sg sg6 := by
          rw [e_sg6]
          exact hF5.ups _ _ (by omega)
        have hI6 : Inv (upd (upd (upd (upd (upd C 7 (g 7 + 1)) (60 + 10 * n + 7) (g (60 + 10 * n + 7) + 1)) (12 + 8 * m + 7) (g (12 + 8 * m + 7) + 1)) (60 + 10 * n + 6) (g (60 + 10 * n + 2))) (60 + 10 * n + 9) (g 6)) := Inv_ask hI hn hm hu1 _ _ _ _ 0
        have hn6 : n < tn ((upd (upd (upd (upd (upd C 7 (g 7 + 1)) (60 + 10 * n + 7) (g (60 + 10 * n + 7) + 1)) (12 + 8 * m + 7) (g (12 + 8 * m + 7) + 1)) (60 + 10 * n + 6) (g (60 + 10 * n + 2))) (60 + 10 * n + 9) (g 6)) 5) := by rw [pk_un (by omega), pk_un (by omega), pk_un (by omega), pk_un (by omega), pk_un (by decide), q5]; exact hn
        have hm6 : m < tn ((upd (upd (upd (upd (upd C 7 (g 7 + 1)) (60 + 10 * n + 7) (g (60 + 10 * n + 7) + 1)) (12 + 8 * m + 7) (g (12 + 8 * m + 7) + 1)) (60 + 10 * n + 6) (g (60 + 10 * n + 2))) (60 + 10 * n + 9) (g 6)) 4) := by rw [pk_un (by omega), pk_un (by omega), pk_un (by omega), pk_un (by omega), pk_un (by decide), q4]; exact hm
        have ew : sg6 (c + 9 + n) 5 = nI m := (hR6.2.2.2.1 n hn6 5 (by decide)).trans (by show (upd (upd (upd (upd (upd C 7 (g 7 + 1)) (60 + 10 * n + 7) (g (60 + 10 * n + 7) + 1)) (12 + 8 * m + 7) (g (12 + 8 * m + 7) + 1)) (60 + 10 * n + 6) (g (60 + 10 * n + 2))) (60 + 10 * n + 9) (g 6)) (60 + 10 * n + 4) - 1 = _; rw [pk_un (by omega), pk_un (by omega), pk_un (by omega), pk_un (by omega), pk_un (by omega), hu1 _ (by omega) (by omega), ← gB_4 g h8, hw, sub1])
        refine V_aload_n hC kX1_ask_126 rfl ?_
        refine V_aload_n hC kX1_ask_127 rfl ?_
        refine V_aload_n hC kX1_ask_128 rfl ?_
        refine V_getI hC 0 5 lfX1_209 kX1_ask_129 (Nat.le_of_ble_eq_true rfl) (Nat.le_of_ble_eq_true rfl) rfl ?_
        rw [ew]
        refine V_cV_rV hC (cl_serve hWr hR6 hI6 hn6 _ (Or.inr ⟨m, hm6, rfl⟩)) mkX1_serve lmX1_205 kX1_ask_132 (Nat.le_of_ble_eq_true rfl) rfl rfl rfl (Nat.le_of_ble_eq_true rfl) ⟨(Nat.le_of_ble_eq_true rfl), (Nat.le_of_ble_eq_true rfl)⟩ ⟨rfl, rfl⟩ ⟨(Nat.le_of_ble_eq_true rfl), (Nat.le_of_ble_eq_true rfl)⟩ (fun g132 h132 => ?_)
        obtain ⟨hR7, hF7⟩ := h132
        rw [pB_2 _ _ h8] at hR7
        have hC7 := Cn_upd hI6.cn (i := 60 + 10 * n + 2) (nI m + 1) (by omega)
        refine V_aload_n hC kX1_ask_135 rfl ?_
        refine V_iconst hC (-1) kX1_ask_136 (by decide) ?_
        refine V_cV_fV hC (cl_wishFor hWr _) mkX0_wishFor lmX1_196 kX1_ask_137 (Nat.le_of_ble_eq_true rfl) rfl rfl rfl (Nat.le_of_ble_eq_true rfl) ⟨(Nat.le_of_ble_eq_true rfl), (Nat.le_of_ble_eq_true rfl)⟩ ⟨rfl, rfl⟩ ⟨(Nat.le_of_ble_eq_true rfl), (Nat.le_of_ble_eq_true rfl)⟩ ?_
        refine V_vret hC rfl kX1_ask_140 ?_
        have hnf : ¬ F_serves g (nI m) = gL g (nI m) 4 := by
          rw [hR.cnt hI hm, hR.l4 hI hm] at h18
          exact (hI.cap hm).mpr (b01n.mp h18)
        refine ⟨by with_reducible rfl, ?_, ((hF6.tr hF7)).upr _ (by omega)⟩
        rw [if_neg hnf, hands_eq h8 h6 rfl hu1 h81 hB1, if_pos rfl]
        exact hR7.wishFor hC7 h8 rfl
  · refine V_aload_n hC kX1_ask_21 rfl ?_
    refine V_dup hC kX1_ask_22 rfl ?_
    refine V_getI hC 1 8 lfX1_53 kX1_ask_23 (Nat.le_of_ble_eq_true rfl) (Nat.le_of_ble_eq_true rfl) rfl ?_
    refine V_iconst hC (1) kX1_ask_26 (by decide) ?_
    refine V_iadd hC kX1_ask_27 ?_
    refine V_putI hC 1 8 lfX1_53 kX1_ask_28 (Nat.le_of_ble_eq_true rfl) (Nat.le_of_ble_eq_true rfl) rfl rfl ⟨rfl, rfl⟩ ?_
    refine V_vret hC rfl kX1_ask_31 ?_
    have hfull : F_serves g (nI m) = gL g (nI m) 4 := by
      rw [hR.cnt hI hm, hR.l4 hI hm] at h18
      exact Classical.not_not.mp (fun z => b01e.mp h18 ((hI.cap hm).mp z))
    refine ⟨by with_reducible rfl, ?_, (Fr.rf c sg).ups _ _ (by omega)⟩
    rw [if_pos hfull, F_inc]
    have hR1 := hR.putC' hI.cn 8 (sg c 8 + 1) (by decide)
    rw [hR.c8] at hR1 ⊢
    exact hR1

