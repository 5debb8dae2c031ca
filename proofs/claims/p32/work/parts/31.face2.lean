-- HOW cl_isPlace fI
-- HOW cl_isSpeed fI
-- HOW cl_isStrength fI
-- HOW cl_isTickCount fI
-- HOW cl_isSetting fI
-- HOW cl_isSlot fI
-- HOW cl_isSettingValue fI
-- HOW cl_shown fI
-- HOW cl_lbegin fV
-- HOW cl_lcopy fV
-- HOW cl_bcopy fV
-- HOW cl_lnum fI
-- HOW cl_bnum fI
-- HOW cl_bright fI
-- HOW cl_worth fI
-- HOW cl_bitCount fI
-- HOW cl_servedCount fI
-- HOW cl_takesHandedOn fI
-- HOW cl_takesOthers fI
-- HOW cl_bbegin fV
-- HOW cl_move fV
-- HOW cl_wishFor fV
-- HOW cl_lightR fR
-- HOW cl_lightN fR
-- HOW cl_boatR fR
-- HOW cl_boatN fR
-- HOW cl_setR fI
-- HOW cl_lightAt fR
-- HOW cl_lightAtNo fR
-- HOW cl_boatAt fR
-- HOW cl_boatAtNo fR
-- HOW cl_settingOf fI
-- HOW cl_servedBoats fI
-- HOW cl_talkingBoats fI
-- HOW cl_numberOf fI
-- HOW cl_brightest fI
-- HOW cl_isDark fI
-- HOW cl_freePlaces fI
-- HOW cl_lightFault fI
-- HOW cl_boatFault fI
-- HOW cl_steerFault fI
-- HOW cl_dimFault fI
-- HOW cl_leanFault fI
-- HOW cl_talkFault fI
-- HOW cl_putSpeed rI
-- HOW cl_putTalk rI
-- HOW cl_putLeaning rI
-- HOW cl_putStrength rI
-- HOW cl_putSetting rI
-- HOW cl_addLight rI
-- HOW cl_addBoat rI
-- HOW cl_tryLight rI
-- HOW cl_tryBoat rI
-- HOW cl_trySteer rI
-- HOW cl_tryTalk rI
-- HOW cl_tryLean rI
-- HOW cl_tryDim rI
-- HOW cl_serve rV
-- HOW cl_lose rV
-- HOW cl_bestWish fI
-- HOW cl_seekKeeper rV
-- HOW cl_ask rV
-- HOW cl_sail rV
-- HOW cl_pass rV
-- HOW cl_reset rV
-- HOW cl_copyFrom rV
-- HOW cl_stateAt fR
-- HOW cl_slotAt fR
-- HOW cl_hasStates fI
-- HOW cl_remember rV
-- HOW cl_takeBack rI
-- HOW cl_isKept fI
-- HOW cl_keep rV
-- HOW cl_bring rV
-- HOW cl_gained fI
-- HOW cl_dark fI
-- HOW cl_room fI
-- HOW cl_takeTurn rV
-- HOW cl_throwFault xV
-- HOW cf_about xI
-- HOW cf_lightOf xI
-- HOW cf_boatOf xI
-- HOW cf_bestAt xI
-- HOW cf_setting xI
-- HOW cf_light xI
-- HOW cf_boat xI
-- HOW cf_steer xI
-- HOW cf_talk xI
-- HOW cf_dim xI
-- HOW cf_set xI
-- HOW cf_ticks xI
-- HOW cf_undo xI
-- HOW cf_save xI
-- HOW cf_restore xI
/-! the class's face: what acts -/
def F2 (x : Nat) (sg g2 : Sg) : Prop := ∀ k, (k < x + 4 ∨ x + 22 ≤ k) → (k < x + 40 ∨ x + 331 ≤ k) → g2 k = sg k
def PM (x n : Nat) (G : Nat → Gs) (K : Nat → Bool) (S : Nat → Gs) (g' : Gs) (sg g2 : Sg) : Prop := MRel g2 (x + 40) n G K S ∧ Rel g2 (x + 4) g' ∧ F2 x sg g2
theorem PM_of {x n : Nat} {G : Nat → Gs} {K : Nat → Bool} {S : Nat → Gs} {g' : Gs} {sg g1 g2 : Sg} (hm : MRel g1 (x + 40) n G K S ∧ ∀ k, (k < x + 40 ∨ x + 40 + 291 ≤ k) → g1 k = sg k) (hR : Rel g2 (x + 4) g') (hF : Fr (x + 4) g1 g2) : PM x n G K S g' sg g2 :=
  ⟨hm.1.fr (fun k h1 h2 => hF k (Or.inr (by omega))), hR, fun k h1 h2 => (hF k (by omega)).trans (hm.2 k (by omega))⟩
theorem Rel_rem {x : Nat} {g : Gs} {sg g1 : Sg} (hR : Rel sg (x + 4) g) (hI : Inv g) (e : ∀ k, (k < x + 40 ∨ x + 40 + 291 ≤ k) → g1 k = sg k) : Rel g1 (x + 4) g := hR.fr hI.cn (fun k _ _ => e k (Or.inl (by omega)))
theorem lt6_of {g : Gs} (hI : Inv g) (h : g 4 < 6) : tn (g 4) < 6 := by
  have h1 := Int32.lt_iff_toInt_lt.mp h
  have e := hI.c4.2
  have e1 := hI.c4.1
  have z : (6 : Int32).toInt = 6 := rfl
  rw [e, nI_toInt (by omega)] at h1
  omega
theorem lt8_of {g : Gs} (hI : Inv g) (h : g 5 < 8) : tn (g 5) < 8 := by
  have h1 := Int32.lt_iff_toInt_lt.mp h
  have e := hI.c5.2
  have e1 := hI.c5.1
  have z : (8 : Int32).toInt = 8 := rfl
  rw [e, nI_toInt (by omega)] at h1
  omega
theorem n60 {a : Int32} (h : inn a 1 60) : ∃ N, N < 61 ∧ a = nI N := by
  obtain ⟨j, hj, e⟩ := vp_in_of (inn_vp (m := 61) (M := 60) (by decide) ⟨Int32.le_trans (by decide) h.1, h.2⟩) (by decide)
  exact ⟨j, hj, e⟩
def KR (K : Nat → Bool) (a : Int32) : Int32 := if inn a 0 1 then (if K (tn a) = true then 0 else 2) else 1
theorem KL_r (g : Gs) (q st k n bo re : Int32) : K_light g q st k n bo re = 0 ∨ K_light g q st k n bo re = 1 ∨ K_light g q st k n bo re = 2 ∨ K_light g q st k n bo re = 3 := by
  unfold K_light; repeat' split
  all_goals first | exact Or.inl rfl | exact Or.inr (Or.inl rfl) | exact Or.inr (Or.inr (Or.inl rfl)) | exact Or.inr (Or.inr (Or.inr rfl))
theorem KB_r (g : Gs) (q v : Int32) : K_boat g q v = 0 ∨ K_boat g q v = 1 ∨ K_boat g q v = 2 ∨ K_boat g q v = 3 := by
  unfold K_boat; repeat' split
  all_goals first | exact Or.inl rfl | exact Or.inr (Or.inl rfl) | exact Or.inr (Or.inr (Or.inl rfl)) | exact Or.inr (Or.inr (Or.inr rfl))
theorem KS_r (g : Gs) (b v : Int32) : K_steer g b v = 0 ∨ K_steer g b v = 1 ∨ K_steer g b v = 2 ∨ K_steer g b v = 3 := by
  unfold K_steer; repeat' split
  all_goals first | exact Or.inl rfl | exact Or.inr (Or.inl rfl) | exact Or.inr (Or.inr (Or.inl rfl)) | exact Or.inr (Or.inr (Or.inr rfl))
theorem KT_r (g : Gs) (b v : Int32) : K_talk g b v = 0 ∨ K_talk g b v = 1 ∨ K_talk g b v = 2 ∨ K_talk g b v = 3 := by
  unfold K_talk; repeat' split
  all_goals first | exact Or.inl rfl | exact Or.inr (Or.inl rfl) | exact Or.inr (Or.inr (Or.inl rfl)) | exact Or.inr (Or.inr (Or.inr rfl))
theorem KD_r (g : Gs) (b v : Int32) : K_dim g b v = 0 ∨ K_dim g b v = 1 ∨ K_dim g b v = 2 ∨ K_dim g b v = 3 := by
  unfold K_dim; repeat' split
  all_goals first | exact Or.inl rfl | exact Or.inr (Or.inl rfl) | exact Or.inr (Or.inr (Or.inl rfl)) | exact Or.inr (Or.inr (Or.inr rfl))
def mtX5_light : Mt := (yX5_light, cX5_light, 7, (some .int), 8, 241, 1, 6)
theorem kX5_light_0 : Dk mtX5_light 0 (.aload_n 0) 1 1 := ⟨by decide +kernel, rfl⟩
theorem kX5_light_1 : Dk mtX5_light 1 (.getfield 19) 3 4 := ⟨by decide +kernel, rfl⟩
theorem kX5_light_4 : Dk mtX5_light 4 (.iload_n 1) 1 5 := ⟨by decide +kernel, rfl⟩
theorem kX5_light_5 : Dk mtX5_light 5 (.iload_n 2) 1 6 := ⟨by decide +kernel, rfl⟩
theorem kX5_light_6 : Dk mtX5_light 6 (.iload_n 3) 1 7 := ⟨by decide +kernel, rfl⟩
theorem kX5_light_7 : Dk mtX5_light 7 (.iload 4) 2 9 := ⟨by decide +kernel, rfl⟩
theorem kX5_light_9 : Dk mtX5_light 9 (.iload 5) 2 11 := ⟨by decide +kernel, rfl⟩
theorem kX5_light_11 : Dk mtX5_light 11 (.iload 6) 2 13 := ⟨by decide +kernel, rfl⟩
theorem kX5_light_13 : Dk mtX5_light 13 (.invokevirtual 165) 3 16 := ⟨by decide +kernel, rfl⟩
theorem kX5_light_16 : Dk mtX5_light 16 (.invokestatic 169) 3 19 := ⟨by decide +kernel, rfl⟩
theorem kX5_light_19 : Dk mtX5_light 19 (.aload_n 0) 1 20 := ⟨by decide +kernel, rfl⟩
theorem kX5_light_20 : Dk mtX5_light 20 (.getfield 29) 3 23 := ⟨by decide +kernel, rfl⟩
theorem kX5_light_23 : Dk mtX5_light 23 (.aload_n 0) 1 24 := ⟨by decide +kernel, rfl⟩
theorem kX5_light_24 : Dk mtX5_light 24 (.getfield 19) 3 27 := ⟨by decide +kernel, rfl⟩
theorem kX5_light_27 : Dk mtX5_light 27 (.invokevirtual 172) 3 30 := ⟨by decide +kernel, rfl⟩
theorem kX5_light_30 : Dk mtX5_light 30 (.aload_n 0) 1 31 := ⟨by decide +kernel, rfl⟩
theorem kX5_light_31 : Dk mtX5_light 31 (.getfield 19) 3 34 := ⟨by decide +kernel, rfl⟩
theorem kX5_light_34 : Dk mtX5_light 34 (.iload_n 1) 1 35 := ⟨by decide +kernel, rfl⟩
theorem kX5_light_35 : Dk mtX5_light 35 (.iload_n 2) 1 36 := ⟨by decide +kernel, rfl⟩
theorem kX5_light_36 : Dk mtX5_light 36 (.iload_n 3) 1 37 := ⟨by decide +kernel, rfl⟩
theorem kX5_light_37 : Dk mtX5_light 37 (.iload 4) 2 39 := ⟨by decide +kernel, rfl⟩
theorem kX5_light_39 : Dk mtX5_light 39 (.iload 5) 2 41 := ⟨by decide +kernel, rfl⟩
theorem kX5_light_41 : Dk mtX5_light 41 (.iload 6) 2 43 := ⟨by decide +kernel, rfl⟩
theorem kX5_light_43 : Dk mtX5_light 43 (.invokevirtual 176) 3 46 := ⟨by decide +kernel, rfl⟩
theorem kX5_light_46 : Dk mtX5_light 46 (.ireturn) 1 47 := ⟨by decide +kernel, rfl⟩
theorem lmX5_165 : LkM RX5 165 mtX1_lightFault := Or.inl (by decide +kernel)
theorem mkX5_throwFault : MkS mtX5_throwFault 1 := ⟨List.mem_of_getElem? (i := 669) (by decide +kernel), by decide +kernel, by decide +kernel, ⟨by decide +kernel, by decide +kernel, by decide +kernel⟩⟩
theorem lxX5_169 : Cond.methodLink RX5 169 (mY mtX5_throwFault) ∈ lw_tbl := by decide +kernel
theorem lfX5_29 : LkF RX5 29 5 3 := Or.inl (by decide +kernel)
theorem lmX5_172 : LkM RX5 172 mtX3_remember := Or.inl (by decide +kernel)
theorem mkX3_remember : MkV mtX3_remember 1 := ⟨List.mem_of_getElem? (i := 676) (by decide +kernel), by decide +kernel, by decide +kernel, by decide +kernel, ⟨by decide +kernel, by decide +kernel, by decide +kernel⟩⟩
theorem lmX5_176 : LkM RX5 176 mtX1_addLight := Or.inl (by decide +kernel)
set_option maxHeartbeats 4000000 in
set_option maxRecDepth 100000 in
theorem cf_light {l : Launch} {w : Wd} {sg : Sg} (hWr : Wr w) (hl0 : l.stackTraces = false) (q st k n bo re : Int32) {x : Nat} {g : Gs} (hR : Rel sg (x + 4) g) (hI : Inv g) {N : Nat} {G : Nat → Gs} {K : Nat → Bool} {S : Nat → Gs} (hm : MRel sg (x + 40) N G K S)  : MX l mtX5_light w [vR (some (5, 0, x)), vI q, vI st, vI k, vI n, vI bo, vI re] sg (rX (K_light g q st k n bo re) (fun r g2 => r = g 4 ∧ PM x (nPush N) (gPush G N g) K S (F_addLight g q st k n bo re) sg g2)) (pX (K_light g q st k n bo re) sg) := by
  refine MX_of hl0 [some (vR (some (5, 0, x))), some (vI q), some (vI st), some (vI k), some (vI n), some (vI bo), some (vI re)] rfl (Nat.le_of_ble_eq_true rfl) (by decide +kernel) ?_
  intro p_ e_ s_ m_ args_ below_ meth_ c_ hC hX hO
  refine V_aload_n hC kX5_light_0 rfl ?_
  refine V_getR hC hWr 5 1 lfX5_19 kX5_light_1 (Nat.le_of_ble_eq_true rfl) (Nat.le_of_ble_eq_true rfl) rfl ?_
  refine V_iload_n hC kX5_light_4 rfl ?_
  refine V_iload_n hC kX5_light_5 rfl ?_
  refine V_iload_n hC kX5_light_6 rfl ?_
  refine V_iload hC kX5_light_7 rfl ?_
  refine V_iload hC kX5_light_9 rfl ?_
  refine V_iload hC kX5_light_11 rfl ?_
  refine V_cV_fI hC (cl_lightFault hWr q st k n bo re hR hI) mkX1_lightFault lmX5_165 kX5_light_13 (Nat.le_of_ble_eq_true rfl) rfl rfl rfl (Nat.le_of_ble_eq_true rfl) ⟨(Nat.le_of_ble_eq_true rfl), (Nat.le_of_ble_eq_true rfl)⟩ ⟨rfl, rfl⟩ ⟨(Nat.le_of_ble_eq_true rfl), (Nat.le_of_ble_eq_true rfl)⟩ ?_
  refine V_cSX_rV hC hX (cl_throwFault hWr hl0 _ (KL_r g q st k n bo re)) mkX5_throwFault lxX5_169 kX5_light_16 rfl rfl (Nat.le_of_ble_eq_true rfl) ⟨(Nat.le_of_ble_eq_true rfl), (Nat.le_of_ble_eq_true rfl)⟩ ⟨(Nat.le_of_ble_eq_true rfl), (Nat.le_of_ble_eq_true rfl)⟩ (fun _ _ h => h) (fun g16 h16 => ?_)
  obtain ⟨hK, e16⟩ := h16
  subst e16
  refine V_aload_n hC kX5_light_19 rfl ?_
  refine V_getR hC hWr 5 3 lfX5_29 kX5_light_20 (Nat.le_of_ble_eq_true rfl) (Nat.le_of_ble_eq_true rfl) rfl ?_
  refine V_aload_n hC kX5_light_23 rfl ?_
  refine V_getR hC hWr 5 1 lfX5_19 kX5_light_24 (Nat.le_of_ble_eq_true rfl) (Nat.le_of_ble_eq_true rfl) rfl ?_
  refine V_cV_rV hC (cl_remember hWr hm hR hI (Or.inl (by omega))) mkX3_remember lmX5_172 kX5_light_27 (Nat.le_of_ble_eq_true rfl) rfl rfl rfl (Nat.le_of_ble_eq_true rfl) ⟨(Nat.le_of_ble_eq_true rfl), (Nat.le_of_ble_eq_true rfl)⟩ ⟨rfl, rfl⟩ ⟨(Nat.le_of_ble_eq_true rfl), (Nat.le_of_ble_eq_true rfl)⟩ (fun g27 h27 => ?_)
  refine V_aload_n hC kX5_light_30 rfl ?_
  refine V_getR hC hWr 5 1 lfX5_19 kX5_light_31 (Nat.le_of_ble_eq_true rfl) (Nat.le_of_ble_eq_true rfl) rfl ?_
  refine V_iload_n hC kX5_light_34 rfl ?_
  refine V_iload_n hC kX5_light_35 rfl ?_
  refine V_iload_n hC kX5_light_36 rfl ?_
  refine V_iload hC kX5_light_37 rfl ?_
  refine V_iload hC kX5_light_39 rfl ?_
  refine V_iload hC kX5_light_41 rfl ?_
  refine V_cV_rI hC (cl_addLight hWr q st k n bo re (Rel_rem hR hI h27.2) hI (lt6_of hI ((KL_0 hI).mp hK).2.2)) mkX1_addLight lmX5_176 kX5_light_43 (Nat.le_of_ble_eq_true rfl) rfl rfl rfl (Nat.le_of_ble_eq_true rfl) ⟨(Nat.le_of_ble_eq_true rfl), (Nat.le_of_ble_eq_true rfl)⟩ ⟨rfl, rfl⟩ ⟨(Nat.le_of_ble_eq_true rfl), (Nat.le_of_ble_eq_true rfl)⟩ (fun x43 g43 h43 => ?_)
  refine V_iretiX hC rfl kX5_light_46 ⟨(Nat.le_of_ble_eq_true rfl), (Nat.le_of_ble_eq_true rfl)⟩ ?_
  exact ⟨_, by with_reducible rfl, hK, h43.1, PM_of h27 h43.2.1 h43.2.2⟩
def mtX5_boat : Mt := (yX5_boat, cX5_boat, 3, (some .int), 8, 241, 1, 6)
theorem kX5_boat_0 : Dk mtX5_boat 0 (.aload_n 0) 1 1 := ⟨by decide +kernel, rfl⟩
theorem kX5_boat_1 : Dk mtX5_boat 1 (.getfield 19) 3 4 := ⟨by decide +kernel, rfl⟩
theorem kX5_boat_4 : Dk mtX5_boat 4 (.iload_n 1) 1 5 := ⟨by decide +kernel, rfl⟩
theorem kX5_boat_5 : Dk mtX5_boat 5 (.iload_n 2) 1 6 := ⟨by decide +kernel, rfl⟩
theorem kX5_boat_6 : Dk mtX5_boat 6 (.invokevirtual 179) 3 9 := ⟨by decide +kernel, rfl⟩
theorem kX5_boat_9 : Dk mtX5_boat 9 (.invokestatic 169) 3 12 := ⟨by decide +kernel, rfl⟩
theorem kX5_boat_12 : Dk mtX5_boat 12 (.aload_n 0) 1 13 := ⟨by decide +kernel, rfl⟩
theorem kX5_boat_13 : Dk mtX5_boat 13 (.getfield 29) 3 16 := ⟨by decide +kernel, rfl⟩
theorem kX5_boat_16 : Dk mtX5_boat 16 (.aload_n 0) 1 17 := ⟨by decide +kernel, rfl⟩
theorem kX5_boat_17 : Dk mtX5_boat 17 (.getfield 19) 3 20 := ⟨by decide +kernel, rfl⟩
theorem kX5_boat_20 : Dk mtX5_boat 20 (.invokevirtual 172) 3 23 := ⟨by decide +kernel, rfl⟩
theorem kX5_boat_23 : Dk mtX5_boat 23 (.aload_n 0) 1 24 := ⟨by decide +kernel, rfl⟩
theorem kX5_boat_24 : Dk mtX5_boat 24 (.getfield 19) 3 27 := ⟨by decide +kernel, rfl⟩
theorem kX5_boat_27 : Dk mtX5_boat 27 (.iload_n 1) 1 28 := ⟨by decide +kernel, rfl⟩
theorem kX5_boat_28 : Dk mtX5_boat 28 (.iload_n 2) 1 29 := ⟨by decide +kernel, rfl⟩
theorem kX5_boat_29 : Dk mtX5_boat 29 (.invokevirtual 182) 3 32 := ⟨by decide +kernel, rfl⟩
theorem kX5_boat_32 : Dk mtX5_boat 32 (.ireturn) 1 33 := ⟨by decide +kernel, rfl⟩
theorem lmX5_179 : LkM RX5 179 mtX1_boatFault := Or.inl (by decide +kernel)
theorem lmX5_182 : LkM RX5 182 mtX1_addBoat := Or.inl (by decide +kernel)
set_option maxHeartbeats 4000000 in
set_option maxRecDepth 100000 in
theorem cf_boat {l : Launch} {w : Wd} {sg : Sg} (hWr : Wr w) (hl0 : l.stackTraces = false) (q v : Int32) {x : Nat} {g : Gs} (hR : Rel sg (x + 4) g) (hI : Inv g) {N : Nat} {G : Nat → Gs} {K : Nat → Bool} {S : Nat → Gs} (hm : MRel sg (x + 40) N G K S)  : MX l mtX5_boat w [vR (some (5, 0, x)), vI q, vI v] sg (rX (K_boat g q v) (fun r g2 => r = g 5 ∧ PM x (nPush N) (gPush G N g) K S (F_addBoat g q v) sg g2)) (pX (K_boat g q v) sg) := by
  refine MX_of hl0 [some (vR (some (5, 0, x))), some (vI q), some (vI v)] rfl (Nat.le_of_ble_eq_true rfl) (by decide +kernel) ?_
  intro p_ e_ s_ m_ args_ below_ meth_ c_ hC hX hO
  refine V_aload_n hC kX5_boat_0 rfl ?_
  refine V_getR hC hWr 5 1 lfX5_19 kX5_boat_1 (Nat.le_of_ble_eq_true rfl) (Nat.le_of_ble_eq_true rfl) rfl ?_
  refine V_iload_n hC kX5_boat_4 rfl ?_
  refine V_iload_n hC kX5_boat_5 rfl ?_
  refine V_cV_fI hC (cl_boatFault hWr q v hR hI) mkX1_boatFault lmX5_179 kX5_boat_6 (Nat.le_of_ble_eq_true rfl) rfl rfl rfl (Nat.le_of_ble_eq_true rfl) ⟨(Nat.le_of_ble_eq_true rfl), (Nat.le_of_ble_eq_true rfl)⟩ ⟨rfl, rfl⟩ ⟨(Nat.le_of_ble_eq_true rfl), (Nat.le_of_ble_eq_true rfl)⟩ ?_
  refine V_cSX_rV hC hX (cl_throwFault hWr hl0 _ (KB_r g q v)) mkX5_throwFault lxX5_169 kX5_boat_9 rfl rfl (Nat.le_of_ble_eq_true rfl) ⟨(Nat.le_of_ble_eq_true rfl), (Nat.le_of_ble_eq_true rfl)⟩ ⟨(Nat.le_of_ble_eq_true rfl), (Nat.le_of_ble_eq_true rfl)⟩ (fun _ _ h => h) (fun g9 h9 => ?_)
  obtain ⟨hK, e9⟩ := h9
  subst e9
  refine V_aload_n hC kX5_boat_12 rfl ?_
  refine V_getR hC hWr 5 3 lfX5_29 kX5_boat_13 (Nat.le_of_ble_eq_true rfl) (Nat.le_of_ble_eq_true rfl) rfl ?_
  refine V_aload_n hC kX5_boat_16 rfl ?_
  refine V_getR hC hWr 5 1 lfX5_19 kX5_boat_17 (Nat.le_of_ble_eq_true rfl) (Nat.le_of_ble_eq_true rfl) rfl ?_
  refine V_cV_rV hC (cl_remember hWr hm hR hI (Or.inl (by omega))) mkX3_remember lmX5_172 kX5_boat_20 (Nat.le_of_ble_eq_true rfl) rfl rfl rfl (Nat.le_of_ble_eq_true rfl) ⟨(Nat.le_of_ble_eq_true rfl), (Nat.le_of_ble_eq_true rfl)⟩ ⟨rfl, rfl⟩ ⟨(Nat.le_of_ble_eq_true rfl), (Nat.le_of_ble_eq_true rfl)⟩ (fun g20 h20 => ?_)
  refine V_aload_n hC kX5_boat_23 rfl ?_
  refine V_getR hC hWr 5 1 lfX5_19 kX5_boat_24 (Nat.le_of_ble_eq_true rfl) (Nat.le_of_ble_eq_true rfl) rfl ?_
  refine V_iload_n hC kX5_boat_27 rfl ?_
  refine V_iload_n hC kX5_boat_28 rfl ?_
  refine V_cV_rI hC (cl_addBoat hWr q v (Rel_rem hR hI h20.2) hI (lt8_of hI ((KB_0 hI).mp hK).2.2)) mkX1_addBoat lmX5_182 kX5_boat_29 (Nat.le_of_ble_eq_true rfl) rfl rfl rfl (Nat.le_of_ble_eq_true rfl) ⟨(Nat.le_of_ble_eq_true rfl), (Nat.le_of_ble_eq_true rfl)⟩ ⟨rfl, rfl⟩ ⟨(Nat.le_of_ble_eq_true rfl), (Nat.le_of_ble_eq_true rfl)⟩ (fun x29 g29 h29 => ?_)
  refine V_iretiX hC rfl kX5_boat_32 ⟨(Nat.le_of_ble_eq_true rfl), (Nat.le_of_ble_eq_true rfl)⟩ ?_
  exact ⟨_, by with_reducible rfl, hK, h29.1, PM_of h20 h29.2.1 h29.2.2⟩
def mtX5_steer : Mt := (yX5_steer, cX5_steer, 3, (some .int), 8, 241, 1, 6)
theorem kX5_steer_0 : Dk mtX5_steer 0 (.aload_n 0) 1 1 := ⟨by decide +kernel, rfl⟩
theorem kX5_steer_1 : Dk mtX5_steer 1 (.getfield 19) 3 4 := ⟨by decide +kernel, rfl⟩
theorem kX5_steer_4 : Dk mtX5_steer 4 (.iload_n 1) 1 5 := ⟨by decide +kernel, rfl⟩
theorem kX5_steer_5 : Dk mtX5_steer 5 (.iload_n 2) 1 6 := ⟨by decide +kernel, rfl⟩
theorem kX5_steer_6 : Dk mtX5_steer 6 (.invokevirtual 185) 3 9 := ⟨by decide +kernel, rfl⟩
theorem kX5_steer_9 : Dk mtX5_steer 9 (.invokestatic 169) 3 12 := ⟨by decide +kernel, rfl⟩
theorem kX5_steer_12 : Dk mtX5_steer 12 (.aload_n 0) 1 13 := ⟨by decide +kernel, rfl⟩
theorem kX5_steer_13 : Dk mtX5_steer 13 (.getfield 29) 3 16 := ⟨by decide +kernel, rfl⟩
theorem kX5_steer_16 : Dk mtX5_steer 16 (.aload_n 0) 1 17 := ⟨by decide +kernel, rfl⟩
theorem kX5_steer_17 : Dk mtX5_steer 17 (.getfield 19) 3 20 := ⟨by decide +kernel, rfl⟩
theorem kX5_steer_20 : Dk mtX5_steer 20 (.invokevirtual 172) 3 23 := ⟨by decide +kernel, rfl⟩
theorem kX5_steer_23 : Dk mtX5_steer 23 (.aload_n 0) 1 24 := ⟨by decide +kernel, rfl⟩
theorem kX5_steer_24 : Dk mtX5_steer 24 (.getfield 19) 3 27 := ⟨by decide +kernel, rfl⟩
theorem kX5_steer_27 : Dk mtX5_steer 27 (.iload_n 1) 1 28 := ⟨by decide +kernel, rfl⟩
theorem kX5_steer_28 : Dk mtX5_steer 28 (.iload_n 2) 1 29 := ⟨by decide +kernel, rfl⟩
theorem kX5_steer_29 : Dk mtX5_steer 29 (.invokevirtual 188) 3 32 := ⟨by decide +kernel, rfl⟩
theorem kX5_steer_32 : Dk mtX5_steer 32 (.ireturn) 1 33 := ⟨by decide +kernel, rfl⟩
theorem lmX5_185 : LkM RX5 185 mtX1_steerFault := Or.inl (by decide +kernel)
theorem lmX5_188 : LkM RX5 188 mtX1_putSpeed := Or.inl (by decide +kernel)
set_option maxHeartbeats 4000000 in
set_option maxRecDepth 100000 in
theorem cf_steer {l : Launch} {w : Wd} {sg : Sg} (hWr : Wr w) (hl0 : l.stackTraces = false) (b v : Int32) {x : Nat} {g : Gs} (hR : Rel sg (x + 4) g) (hI : Inv g) {N : Nat} {G : Nat → Gs} {K : Nat → Bool} {S : Nat → Gs} (hm : MRel sg (x + 40) N G K S)  : MX l mtX5_steer w [vR (some (5, 0, x)), vI b, vI v] sg (rX (K_steer g b v) (fun r g2 => r = gB g b 1 ∧ PM x (nPush N) (gPush G N g) K S (pB g b 1 v) sg g2)) (pX (K_steer g b v) sg) := by
  refine MX_of hl0 [some (vR (some (5, 0, x))), some (vI b), some (vI v)] rfl (Nat.le_of_ble_eq_true rfl) (by decide +kernel) ?_
  intro p_ e_ s_ m_ args_ below_ meth_ c_ hC hX hO
  refine V_aload_n hC kX5_steer_0 rfl ?_
  refine V_getR hC hWr 5 1 lfX5_19 kX5_steer_1 (Nat.le_of_ble_eq_true rfl) (Nat.le_of_ble_eq_true rfl) rfl ?_
  refine V_iload_n hC kX5_steer_4 rfl ?_
  refine V_iload_n hC kX5_steer_5 rfl ?_
  refine V_cV_fI hC (cl_steerFault hWr b v hR hI) mkX1_steerFault lmX5_185 kX5_steer_6 (Nat.le_of_ble_eq_true rfl) rfl rfl rfl (Nat.le_of_ble_eq_true rfl) ⟨(Nat.le_of_ble_eq_true rfl), (Nat.le_of_ble_eq_true rfl)⟩ ⟨rfl, rfl⟩ ⟨(Nat.le_of_ble_eq_true rfl), (Nat.le_of_ble_eq_true rfl)⟩ ?_
  refine V_cSX_rV hC hX (cl_throwFault hWr hl0 _ (KS_r g b v)) mkX5_throwFault lxX5_169 kX5_steer_9 rfl rfl (Nat.le_of_ble_eq_true rfl) ⟨(Nat.le_of_ble_eq_true rfl), (Nat.le_of_ble_eq_true rfl)⟩ ⟨(Nat.le_of_ble_eq_true rfl), (Nat.le_of_ble_eq_true rfl)⟩ (fun _ _ h => h) (fun g9 h9 => ?_)
  obtain ⟨hK, e9⟩ := h9
  subst e9
  obtain ⟨n, hn, rfl⟩ := in_B hI.hc5 (KS_0.mp hK).1
  refine V_aload_n hC kX5_steer_12 rfl ?_
  refine V_getR hC hWr 5 3 lfX5_29 kX5_steer_13 (Nat.le_of_ble_eq_true rfl) (Nat.le_of_ble_eq_true rfl) rfl ?_
  refine V_aload_n hC kX5_steer_16 rfl ?_
  refine V_getR hC hWr 5 1 lfX5_19 kX5_steer_17 (Nat.le_of_ble_eq_true rfl) (Nat.le_of_ble_eq_true rfl) rfl ?_
  refine V_cV_rV hC (cl_remember hWr hm hR hI (Or.inl (by omega))) mkX3_remember lmX5_172 kX5_steer_20 (Nat.le_of_ble_eq_true rfl) rfl rfl rfl (Nat.le_of_ble_eq_true rfl) ⟨(Nat.le_of_ble_eq_true rfl), (Nat.le_of_ble_eq_true rfl)⟩ ⟨rfl, rfl⟩ ⟨(Nat.le_of_ble_eq_true rfl), (Nat.le_of_ble_eq_true rfl)⟩ (fun g20 h20 => ?_)
  refine V_aload_n hC kX5_steer_23 rfl ?_
  refine V_getR hC hWr 5 1 lfX5_19 kX5_steer_24 (Nat.le_of_ble_eq_true rfl) (Nat.le_of_ble_eq_true rfl) rfl ?_
  refine V_iload_n hC kX5_steer_27 rfl ?_
  refine V_iload_n hC kX5_steer_28 rfl ?_
  refine V_cV_rI hC (cl_putSpeed hWr v (Rel_rem hR hI h20.2) hI hn) mkX1_putSpeed lmX5_188 kX5_steer_29 (Nat.le_of_ble_eq_true rfl) rfl rfl rfl (Nat.le_of_ble_eq_true rfl) ⟨(Nat.le_of_ble_eq_true rfl), (Nat.le_of_ble_eq_true rfl)⟩ ⟨rfl, rfl⟩ ⟨(Nat.le_of_ble_eq_true rfl), (Nat.le_of_ble_eq_true rfl)⟩ (fun x29 g29 h29 => ?_)
  refine V_iretiX hC rfl kX5_steer_32 ⟨(Nat.le_of_ble_eq_true rfl), (Nat.le_of_ble_eq_true rfl)⟩ ?_
  exact ⟨_, by with_reducible rfl, hK, h29.1, PM_of h20 h29.2.1 h29.2.2⟩
def mtX5_talk : Mt := (yX5_talk, cX5_talk, 3, (some .int), 8, 241, 1, 6)
theorem kX5_talk_0 : Dk mtX5_talk 0 (.aload_n 0) 1 1 := ⟨by decide +kernel, rfl⟩
theorem kX5_talk_1 : Dk mtX5_talk 1 (.getfield 19) 3 4 := ⟨by decide +kernel, rfl⟩
theorem kX5_talk_4 : Dk mtX5_talk 4 (.iload_n 1) 1 5 := ⟨by decide +kernel, rfl⟩
theorem kX5_talk_5 : Dk mtX5_talk 5 (.iload_n 2) 1 6 := ⟨by decide +kernel, rfl⟩
theorem kX5_talk_6 : Dk mtX5_talk 6 (.invokevirtual 191) 3 9 := ⟨by decide +kernel, rfl⟩
theorem kX5_talk_9 : Dk mtX5_talk 9 (.invokestatic 169) 3 12 := ⟨by decide +kernel, rfl⟩
theorem kX5_talk_12 : Dk mtX5_talk 12 (.aload_n 0) 1 13 := ⟨by decide +kernel, rfl⟩
theorem kX5_talk_13 : Dk mtX5_talk 13 (.getfield 29) 3 16 := ⟨by decide +kernel, rfl⟩
theorem kX5_talk_16 : Dk mtX5_talk 16 (.aload_n 0) 1 17 := ⟨by decide +kernel, rfl⟩
theorem kX5_talk_17 : Dk mtX5_talk 17 (.getfield 19) 3 20 := ⟨by decide +kernel, rfl⟩
theorem kX5_talk_20 : Dk mtX5_talk 20 (.invokevirtual 172) 3 23 := ⟨by decide +kernel, rfl⟩
theorem kX5_talk_23 : Dk mtX5_talk 23 (.aload_n 0) 1 24 := ⟨by decide +kernel, rfl⟩
theorem kX5_talk_24 : Dk mtX5_talk 24 (.getfield 19) 3 27 := ⟨by decide +kernel, rfl⟩
theorem kX5_talk_27 : Dk mtX5_talk 27 (.iload_n 1) 1 28 := ⟨by decide +kernel, rfl⟩
theorem kX5_talk_28 : Dk mtX5_talk 28 (.iload_n 2) 1 29 := ⟨by decide +kernel, rfl⟩
theorem kX5_talk_29 : Dk mtX5_talk 29 (.invokevirtual 194) 3 32 := ⟨by decide +kernel, rfl⟩
theorem kX5_talk_32 : Dk mtX5_talk 32 (.ireturn) 1 33 := ⟨by decide +kernel, rfl⟩
theorem lmX5_191 : LkM RX5 191 mtX1_talkFault := Or.inl (by decide +kernel)
theorem lmX5_194 : LkM RX5 194 mtX1_putTalk := Or.inl (by decide +kernel)
set_option maxHeartbeats 4000000 in
set_option maxRecDepth 100000 in
theorem cf_talk {l : Launch} {w : Wd} {sg : Sg} (hWr : Wr w) (hl0 : l.stackTraces = false) (b v : Int32) {x : Nat} {g : Gs} (hR : Rel sg (x + 4) g) (hI : Inv g) {N : Nat} {G : Nat → Gs} {K : Nat → Bool} {S : Nat → Gs} (hm : MRel sg (x + 40) N G K S)  : MX l mtX5_talk w [vR (some (5, 0, x)), vI b, vI v] sg (rX (K_talk g b v) (fun r g2 => r = gB g b 3 ∧ PM x (nPush N) (gPush G N g) K S (pB g b 3 v) sg g2)) (pX (K_talk g b v) sg) := by
  refine MX_of hl0 [some (vR (some (5, 0, x))), some (vI b), some (vI v)] rfl (Nat.le_of_ble_eq_true rfl) (by decide +kernel) ?_
  intro p_ e_ s_ m_ args_ below_ meth_ c_ hC hX hO
  refine V_aload_n hC kX5_talk_0 rfl ?_
  refine V_getR hC hWr 5 1 lfX5_19 kX5_talk_1 (Nat.le_of_ble_eq_true rfl) (Nat.le_of_ble_eq_true rfl) rfl ?_
  refine V_iload_n hC kX5_talk_4 rfl ?_
  refine V_iload_n hC kX5_talk_5 rfl ?_
  refine V_cV_fI hC (cl_talkFault hWr b v hR hI) mkX1_talkFault lmX5_191 kX5_talk_6 (Nat.le_of_ble_eq_true rfl) rfl rfl rfl (Nat.le_of_ble_eq_true rfl) ⟨(Nat.le_of_ble_eq_true rfl), (Nat.le_of_ble_eq_true rfl)⟩ ⟨rfl, rfl⟩ ⟨(Nat.le_of_ble_eq_true rfl), (Nat.le_of_ble_eq_true rfl)⟩ ?_
  refine V_cSX_rV hC hX (cl_throwFault hWr hl0 _ (KT_r g b v)) mkX5_throwFault lxX5_169 kX5_talk_9 rfl rfl (Nat.le_of_ble_eq_true rfl) ⟨(Nat.le_of_ble_eq_true rfl), (Nat.le_of_ble_eq_true rfl)⟩ ⟨(Nat.le_of_ble_eq_true rfl), (Nat.le_of_ble_eq_true rfl)⟩ (fun _ _ h => h) (fun g9 h9 => ?_)
  obtain ⟨hK, e9⟩ := h9
  subst e9
  obtain ⟨n, hn, rfl⟩ := in_B hI.hc5 (KT_0.mp hK).1
  refine V_aload_n hC kX5_talk_12 rfl ?_
  refine V_getR hC hWr 5 3 lfX5_29 kX5_talk_13 (Nat.le_of_ble_eq_true rfl) (Nat.le_of_ble_eq_true rfl) rfl ?_
  refine V_aload_n hC kX5_talk_16 rfl ?_
  refine V_getR hC hWr 5 1 lfX5_19 kX5_talk_17 (Nat.le_of_ble_eq_true rfl) (Nat.le_of_ble_eq_true rfl) rfl ?_
  refine V_cV_rV hC (cl_remember hWr hm hR hI (Or.inl (by omega))) mkX3_remember lmX5_172 kX5_talk_20 (Nat.le_of_ble_eq_true rfl) rfl rfl rfl (Nat.le_of_ble_eq_true rfl) ⟨(Nat.le_of_ble_eq_true rfl), (Nat.le_of_ble_eq_true rfl)⟩ ⟨rfl, rfl⟩ ⟨(Nat.le_of_ble_eq_true rfl), (Nat.le_of_ble_eq_true rfl)⟩ (fun g20 h20 => ?_)
  refine V_aload_n hC kX5_talk_23 rfl ?_
  refine V_getR hC hWr 5 1 lfX5_19 kX5_talk_24 (Nat.le_of_ble_eq_true rfl) (Nat.le_of_ble_eq_true rfl) rfl ?_
  refine V_iload_n hC kX5_talk_27 rfl ?_
  refine V_iload_n hC kX5_talk_28 rfl ?_
  refine V_cV_rI hC (cl_putTalk hWr v (Rel_rem hR hI h20.2) hI hn) mkX1_putTalk lmX5_194 kX5_talk_29 (Nat.le_of_ble_eq_true rfl) rfl rfl rfl (Nat.le_of_ble_eq_true rfl) ⟨(Nat.le_of_ble_eq_true rfl), (Nat.le_of_ble_eq_true rfl)⟩ ⟨rfl, rfl⟩ ⟨(Nat.le_of_ble_eq_true rfl), (Nat.le_of_ble_eq_true rfl)⟩ (fun x29 g29 h29 => ?_)
  refine V_iretiX hC rfl kX5_talk_32 ⟨(Nat.le_of_ble_eq_true rfl), (Nat.le_of_ble_eq_true rfl)⟩ ?_
  exact ⟨_, by with_reducible rfl, hK, h29.1, PM_of h20 h29.2.1 h29.2.2⟩
def mtX5_dim : Mt := (yX5_dim, cX5_dim, 3, (some .int), 8, 241, 1, 6)
theorem kX5_dim_0 : Dk mtX5_dim 0 (.aload_n 0) 1 1 := ⟨by decide +kernel, rfl⟩
theorem kX5_dim_1 : Dk mtX5_dim 1 (.getfield 19) 3 4 := ⟨by decide +kernel, rfl⟩
theorem kX5_dim_4 : Dk mtX5_dim 4 (.iload_n 1) 1 5 := ⟨by decide +kernel, rfl⟩
theorem kX5_dim_5 : Dk mtX5_dim 5 (.iload_n 2) 1 6 := ⟨by decide +kernel, rfl⟩
theorem kX5_dim_6 : Dk mtX5_dim 6 (.invokevirtual 203) 3 9 := ⟨by decide +kernel, rfl⟩
theorem kX5_dim_9 : Dk mtX5_dim 9 (.invokestatic 169) 3 12 := ⟨by decide +kernel, rfl⟩
theorem kX5_dim_12 : Dk mtX5_dim 12 (.aload_n 0) 1 13 := ⟨by decide +kernel, rfl⟩
theorem kX5_dim_13 : Dk mtX5_dim 13 (.getfield 29) 3 16 := ⟨by decide +kernel, rfl⟩
theorem kX5_dim_16 : Dk mtX5_dim 16 (.aload_n 0) 1 17 := ⟨by decide +kernel, rfl⟩
theorem kX5_dim_17 : Dk mtX5_dim 17 (.getfield 19) 3 20 := ⟨by decide +kernel, rfl⟩
theorem kX5_dim_20 : Dk mtX5_dim 20 (.invokevirtual 172) 3 23 := ⟨by decide +kernel, rfl⟩
theorem kX5_dim_23 : Dk mtX5_dim 23 (.aload_n 0) 1 24 := ⟨by decide +kernel, rfl⟩
theorem kX5_dim_24 : Dk mtX5_dim 24 (.getfield 19) 3 27 := ⟨by decide +kernel, rfl⟩
theorem kX5_dim_27 : Dk mtX5_dim 27 (.iload_n 1) 1 28 := ⟨by decide +kernel, rfl⟩
theorem kX5_dim_28 : Dk mtX5_dim 28 (.iload_n 2) 1 29 := ⟨by decide +kernel, rfl⟩
theorem kX5_dim_29 : Dk mtX5_dim 29 (.invokevirtual 206) 3 32 := ⟨by decide +kernel, rfl⟩
theorem kX5_dim_32 : Dk mtX5_dim 32 (.ireturn) 1 33 := ⟨by decide +kernel, rfl⟩
theorem lmX5_203 : LkM RX5 203 mtX1_dimFault := Or.inl (by decide +kernel)
theorem lmX5_206 : LkM RX5 206 mtX1_putStrength := Or.inl (by decide +kernel)
set_option maxHeartbeats 4000000 in
set_option maxRecDepth 100000 in
theorem cf_dim {l : Launch} {w : Wd} {sg : Sg} (hWr : Wr w) (hl0 : l.stackTraces = false) (b v : Int32) {x : Nat} {g : Gs} (hR : Rel sg (x + 4) g) (hI : Inv g) {N : Nat} {G : Nat → Gs} {K : Nat → Bool} {S : Nat → Gs} (hm : MRel sg (x + 40) N G K S)  : MX l mtX5_dim w [vR (some (5, 0, x)), vI b, vI v] sg (rX (K_dim g b v) (fun r g2 => r = gL g b 1 ∧ PM x (nPush N) (gPush G N g) K S (F_dim g b v) sg g2)) (pX (K_dim g b v) sg) := by
  refine MX_of hl0 [some (vR (some (5, 0, x))), some (vI b), some (vI v)] rfl (Nat.le_of_ble_eq_true rfl) (by decide +kernel) ?_
  intro p_ e_ s_ m_ args_ below_ meth_ c_ hC hX hO
  refine V_aload_n hC kX5_dim_0 rfl ?_
  refine V_getR hC hWr 5 1 lfX5_19 kX5_dim_1 (Nat.le_of_ble_eq_true rfl) (Nat.le_of_ble_eq_true rfl) rfl ?_
  refine V_iload_n hC kX5_dim_4 rfl ?_
  refine V_iload_n hC kX5_dim_5 rfl ?_
  refine V_cV_fI hC (cl_dimFault hWr b v hR hI) mkX1_dimFault lmX5_203 kX5_dim_6 (Nat.le_of_ble_eq_true rfl) rfl rfl rfl (Nat.le_of_ble_eq_true rfl) ⟨(Nat.le_of_ble_eq_true rfl), (Nat.le_of_ble_eq_true rfl)⟩ ⟨rfl, rfl⟩ ⟨(Nat.le_of_ble_eq_true rfl), (Nat.le_of_ble_eq_true rfl)⟩ ?_
  refine V_cSX_rV hC hX (cl_throwFault hWr hl0 _ (KD_r g b v)) mkX5_throwFault lxX5_169 kX5_dim_9 rfl rfl (Nat.le_of_ble_eq_true rfl) ⟨(Nat.le_of_ble_eq_true rfl), (Nat.le_of_ble_eq_true rfl)⟩ ⟨(Nat.le_of_ble_eq_true rfl), (Nat.le_of_ble_eq_true rfl)⟩ (fun _ _ h => h) (fun g9 h9 => ?_)
  obtain ⟨hK, e9⟩ := h9
  subst e9
  obtain ⟨n, hn, rfl⟩ := in_L hI.hc4 (KD_0.mp hK).1
  refine V_aload_n hC kX5_dim_12 rfl ?_
  refine V_getR hC hWr 5 3 lfX5_29 kX5_dim_13 (Nat.le_of_ble_eq_true rfl) (Nat.le_of_ble_eq_true rfl) rfl ?_
  refine V_aload_n hC kX5_dim_16 rfl ?_
  refine V_getR hC hWr 5 1 lfX5_19 kX5_dim_17 (Nat.le_of_ble_eq_true rfl) (Nat.le_of_ble_eq_true rfl) rfl ?_
  refine V_cV_rV hC (cl_remember hWr hm hR hI (Or.inl (by omega))) mkX3_remember lmX5_172 kX5_dim_20 (Nat.le_of_ble_eq_true rfl) rfl rfl rfl (Nat.le_of_ble_eq_true rfl) ⟨(Nat.le_of_ble_eq_true rfl), (Nat.le_of_ble_eq_true rfl)⟩ ⟨rfl, rfl⟩ ⟨(Nat.le_of_ble_eq_true rfl), (Nat.le_of_ble_eq_true rfl)⟩ (fun g20 h20 => ?_)
  refine V_aload_n hC kX5_dim_23 rfl ?_
  refine V_getR hC hWr 5 1 lfX5_19 kX5_dim_24 (Nat.le_of_ble_eq_true rfl) (Nat.le_of_ble_eq_true rfl) rfl ?_
  refine V_iload_n hC kX5_dim_27 rfl ?_
  refine V_iload_n hC kX5_dim_28 rfl ?_
  refine V_cV_rI hC (cl_putStrength hWr v (Rel_rem hR hI h20.2) hI hn) mkX1_putStrength lmX5_206 kX5_dim_29 (Nat.le_of_ble_eq_true rfl) rfl rfl rfl (Nat.le_of_ble_eq_true rfl) ⟨(Nat.le_of_ble_eq_true rfl), (Nat.le_of_ble_eq_true rfl)⟩ ⟨rfl, rfl⟩ ⟨(Nat.le_of_ble_eq_true rfl), (Nat.le_of_ble_eq_true rfl)⟩ (fun x29 g29 h29 => ?_)
  refine V_iretiX hC rfl kX5_dim_32 ⟨(Nat.le_of_ble_eq_true rfl), (Nat.le_of_ble_eq_true rfl)⟩ ?_
  exact ⟨_, by with_reducible rfl, hK, h29.1, PM_of h20 h29.2.1 h29.2.2⟩
def mtX5_set : Mt := (yX5_set, cX5_set, 3, (some .int), 7, 221, 1, 6)
theorem kX5_set_0 : Dk mtX5_set 0 (.iload_n 1) 1 1 := ⟨by decide +kernel, rfl⟩
theorem kX5_set_1 : Dk mtX5_set 1 (.iload_n 2) 1 2 := ⟨by decide +kernel, rfl⟩
theorem kX5_set_2 : Dk mtX5_set 2 (.invokestatic 209) 3 5 := ⟨by decide +kernel, rfl⟩
theorem kX5_set_5 : Dk mtX5_set 5 (.ifCond .ne 13) 3 8 := ⟨by decide +kernel, rfl⟩
theorem kX5_set_8 : Dk mtX5_set 8 (.new 33) 3 11 := ⟨by decide +kernel, rfl⟩
theorem kX5_set_11 : Dk mtX5_set 11 (.dup) 1 12 := ⟨by decide +kernel, rfl⟩
theorem kX5_set_12 : Dk mtX5_set 12 (.ldc 212) 2 14 := ⟨by decide +kernel, rfl⟩
theorem kX5_set_14 : Dk mtX5_set 14 (.invokespecial 37) 3 17 := ⟨by decide +kernel, rfl⟩
theorem kX5_set_17 : Dk mtX5_set 17 (.athrow) 1 18 := ⟨by decide +kernel, rfl⟩
theorem kX5_set_18 : Dk mtX5_set 18 (.aload_n 0) 1 19 := ⟨by decide +kernel, rfl⟩
theorem kX5_set_19 : Dk mtX5_set 19 (.getfield 29) 3 22 := ⟨by decide +kernel, rfl⟩
theorem kX5_set_22 : Dk mtX5_set 22 (.aload_n 0) 1 23 := ⟨by decide +kernel, rfl⟩
theorem kX5_set_23 : Dk mtX5_set 23 (.getfield 19) 3 26 := ⟨by decide +kernel, rfl⟩
theorem kX5_set_26 : Dk mtX5_set 26 (.invokevirtual 172) 3 29 := ⟨by decide +kernel, rfl⟩
theorem kX5_set_29 : Dk mtX5_set 29 (.aload_n 0) 1 30 := ⟨by decide +kernel, rfl⟩
theorem kX5_set_30 : Dk mtX5_set 30 (.getfield 19) 3 33 := ⟨by decide +kernel, rfl⟩
theorem kX5_set_33 : Dk mtX5_set 33 (.iload_n 1) 1 34 := ⟨by decide +kernel, rfl⟩
theorem kX5_set_34 : Dk mtX5_set 34 (.iload_n 2) 1 35 := ⟨by decide +kernel, rfl⟩
theorem kX5_set_35 : Dk mtX5_set 35 (.invokevirtual 214) 3 38 := ⟨by decide +kernel, rfl⟩
theorem kX5_set_38 : Dk mtX5_set 38 (.ireturn) 1 39 := ⟨by decide +kernel, rfl⟩
theorem lmX5_209 : LkM RX5 209 mtX5_isSettingValue := Or.inl (by decide +kernel)
set_option maxHeartbeats 4000000 in
set_option maxRecDepth 100000 in
theorem cf_set {l : Launch} {w : Wd} {sg : Sg} (hWr : Wr w) (hl0 : l.stackTraces = false) (a v : Int32) {x : Nat} {g : Gs} (hR : Rel sg (x + 4) g) (hI : Inv g) {N : Nat} {G : Nat → Gs} {K : Nat → Bool} {S : Nat → Gs} (hm : MRel sg (x + 40) N G K S)  : MX l mtX5_set w [vR (some (5, 0, x)), vI a, vI v] sg (rX (K_set a v) (fun r g2 => r = g (tn a) ∧ PM x (nPush N) (gPush G N g) K S (upd g (tn a) v) sg g2)) (pY "java/lang/IllegalArgumentException" "java/lang/IllegalArgumentException" "java/lang/IllegalArgumentException" (K_set a v) sg) := by
  refine MX_of hl0 [some (vR (some (5, 0, x))), some (vI a), some (vI v)] rfl (Nat.le_of_ble_eq_true rfl) (by decide +kernel) ?_
  intro p_ e_ s_ m_ args_ below_ meth_ c_ hC hX hO
  refine V_iload_n hC kX5_set_0 rfl ?_
  refine V_iload_n hC kX5_set_1 rfl ?_
  refine V_cS_fI hC (cl_isSettingValue hWr _ _) mkX5_isSettingValue lmX5_209 kX5_set_2 rfl rfl (Nat.le_of_ble_eq_true rfl) ⟨(Nat.le_of_ble_eq_true rfl), (Nat.le_of_ble_eq_true rfl)⟩ ⟨rfl, rfl⟩ ⟨(Nat.le_of_ble_eq_true rfl), (Nat.le_of_ble_eq_true rfl)⟩ ?_
  refine V_if_ne hC 18 kX5_set_5 (by decide) (fun h5 => ?_) (fun h5 => ?_)
  · have hyes := b01n.mp h5
    obtain ⟨n, hn, rfl⟩ := vp_in_of (inn_vp (m := 4) (by decide) hyes.1) (by decide)
    refine V_aload_n hC kX5_set_18 rfl ?_
    refine V_getR hC hWr 5 3 lfX5_29 kX5_set_19 (Nat.le_of_ble_eq_true rfl) (Nat.le_of_ble_eq_true rfl) rfl ?_
    refine V_aload_n hC kX5_set_22 rfl ?_
    refine V_getR hC hWr 5 1 lfX5_19 kX5_set_23 (Nat.le_of_ble_eq_true rfl) (Nat.le_of_ble_eq_true rfl) rfl ?_
    refine V_cV_rV hC (cl_remember hWr hm hR hI (Or.inl (by omega))) mkX3_remember lmX5_172 kX5_set_26 (Nat.le_of_ble_eq_true rfl) rfl rfl rfl (Nat.le_of_ble_eq_true rfl) ⟨(Nat.le_of_ble_eq_true rfl), (Nat.le_of_ble_eq_true rfl)⟩ ⟨rfl, rfl⟩ ⟨(Nat.le_of_ble_eq_true rfl), (Nat.le_of_ble_eq_true rfl)⟩ (fun g26 h26 => ?_)
    refine V_aload_n hC kX5_set_29 rfl ?_
    refine V_getR hC hWr 5 1 lfX5_19 kX5_set_30 (Nat.le_of_ble_eq_true rfl) (Nat.le_of_ble_eq_true rfl) rfl ?_
    refine V_iload_n hC kX5_set_33 rfl ?_
    refine V_iload_n hC kX5_set_34 rfl ?_
    refine V_cV_rI hC (cl_putSetting hWr v (Rel_rem hR hI h26.2) hI hn) mkX1_putSetting lmX5_214 kX5_set_35 (Nat.le_of_ble_eq_true rfl) rfl rfl rfl (Nat.le_of_ble_eq_true rfl) ⟨(Nat.le_of_ble_eq_true rfl), (Nat.le_of_ble_eq_true rfl)⟩ ⟨rfl, rfl⟩ ⟨(Nat.le_of_ble_eq_true rfl), (Nat.le_of_ble_eq_true rfl)⟩ (fun x35 g35 h35 => ?_)
    refine V_iretiX hC rfl kX5_set_38 ⟨(Nat.le_of_ble_eq_true rfl), (Nat.le_of_ble_eq_true rfl)⟩ ?_
    have en : tn (nI n) = n := nI_clamp (by omega)
    exact ⟨_, by with_reducible rfl, if_pos hyes, by rw [en]; exact h35.1, by rw [en]; exact PM_of h26 h35.2.1 h35.2.2⟩
  · refine V_thS hC hX (cls := "java/lang/IllegalArgumentException") (text := "no such setting, or not a value of it") thc1 (by decide +kernel) rfl kX5_set_8 kX5_set_11 kX5_set_12 kX5_set_14 kX5_set_17 ⟨(Nat.le_of_ble_eq_true rfl), (Nat.le_of_ble_eq_true rfl)⟩ ⟨(Nat.le_of_ble_eq_true rfl), (Nat.le_of_ble_eq_true rfl)⟩ ?_
    exact pY1 (if_neg (b01e.mp h5))
def mtX5_ticks : Mt := (yX5_ticks, cX5_ticks, 3, (some .int), 7, 221, 1, 6)
theorem kX5_ticks_0 : Dk mtX5_ticks 0 (.iload_n 1) 1 1 := ⟨by decide +kernel, rfl⟩
theorem kX5_ticks_1 : Dk mtX5_ticks 1 (.invokestatic 217) 3 4 := ⟨by decide +kernel, rfl⟩
theorem kX5_ticks_4 : Dk mtX5_ticks 4 (.ifCond .ne 13) 3 7 := ⟨by decide +kernel, rfl⟩
theorem kX5_ticks_7 : Dk mtX5_ticks 7 (.new 33) 3 10 := ⟨by decide +kernel, rfl⟩
theorem kX5_ticks_10 : Dk mtX5_ticks 10 (.dup) 1 11 := ⟨by decide +kernel, rfl⟩
theorem kX5_ticks_11 : Dk mtX5_ticks 11 (.ldc 220) 2 13 := ⟨by decide +kernel, rfl⟩
theorem kX5_ticks_13 : Dk mtX5_ticks 13 (.invokespecial 37) 3 16 := ⟨by decide +kernel, rfl⟩
theorem kX5_ticks_16 : Dk mtX5_ticks 16 (.athrow) 1 17 := ⟨by decide +kernel, rfl⟩
theorem kX5_ticks_17 : Dk mtX5_ticks 17 (.aload_n 0) 1 18 := ⟨by decide +kernel, rfl⟩
theorem kX5_ticks_18 : Dk mtX5_ticks 18 (.getfield 29) 3 21 := ⟨by decide +kernel, rfl⟩
theorem kX5_ticks_21 : Dk mtX5_ticks 21 (.aload_n 0) 1 22 := ⟨by decide +kernel, rfl⟩
theorem kX5_ticks_22 : Dk mtX5_ticks 22 (.getfield 19) 3 25 := ⟨by decide +kernel, rfl⟩
theorem kX5_ticks_25 : Dk mtX5_ticks 25 (.invokevirtual 172) 3 28 := ⟨by decide +kernel, rfl⟩
theorem kX5_ticks_28 : Dk mtX5_ticks 28 (.aload_n 0) 1 29 := ⟨by decide +kernel, rfl⟩
theorem kX5_ticks_29 : Dk mtX5_ticks 29 (.getfield 19) 3 32 := ⟨by decide +kernel, rfl⟩
theorem kX5_ticks_32 : Dk mtX5_ticks 32 (.getfield 222) 3 35 := ⟨by decide +kernel, rfl⟩
theorem kX5_ticks_35 : Dk mtX5_ticks 35 (.istore_n 2) 1 36 := ⟨by decide +kernel, rfl⟩
theorem kX5_ticks_36 : Dk mtX5_ticks 36 (.aload_n 0) 1 37 := ⟨by decide +kernel, rfl⟩
theorem kX5_ticks_37 : Dk mtX5_ticks 37 (.getfield 19) 3 40 := ⟨by decide +kernel, rfl⟩
theorem kX5_ticks_40 : Dk mtX5_ticks 40 (.iload_n 1) 1 41 := ⟨by decide +kernel, rfl⟩
theorem kX5_ticks_41 : Dk mtX5_ticks 41 (.invokevirtual 102) 3 44 := ⟨by decide +kernel, rfl⟩
theorem kX5_ticks_44 : Dk mtX5_ticks 44 (.aload_n 0) 1 45 := ⟨by decide +kernel, rfl⟩
theorem kX5_ticks_45 : Dk mtX5_ticks 45 (.getfield 19) 3 48 := ⟨by decide +kernel, rfl⟩
theorem kX5_ticks_48 : Dk mtX5_ticks 48 (.getfield 222) 3 51 := ⟨by decide +kernel, rfl⟩
theorem kX5_ticks_51 : Dk mtX5_ticks 51 (.iload_n 2) 1 52 := ⟨by decide +kernel, rfl⟩
theorem kX5_ticks_52 : Dk mtX5_ticks 52 (.isub) 1 53 := ⟨by decide +kernel, rfl⟩
theorem kX5_ticks_53 : Dk mtX5_ticks 53 (.ireturn) 1 54 := ⟨by decide +kernel, rfl⟩
theorem lfX5_222 : LkF RX5 222 1 6 := Or.inr (by decide +kernel)
set_option maxHeartbeats 4000000 in
set_option maxRecDepth 100000 in
theorem cf_ticks {l : Launch} {w : Wd} {sg : Sg} (hWr : Wr w) (hl0 : l.stackTraces = false) (a : Int32) {x : Nat} {g : Gs} (hR : Rel sg (x + 4) g) (hI : Inv g) {N : Nat} {G : Nat → Gs} {K : Nat → Bool} {S : Nat → Gs} (hm : MRel sg (x + 40) N G K S)  : MX l mtX5_ticks w [vR (some (5, 0, x)), vI a] sg (rX (K_ticks a) (fun r g2 => r = F_ticks g (tn a) 7 - g 7 ∧ PM x (nPush N) (gPush G N g) K S (F_ticks g (tn a)) sg g2)) (pY "java/lang/IllegalArgumentException" "java/lang/IllegalArgumentException" "java/lang/IllegalArgumentException" (K_ticks a) sg) := by
  refine MX_of hl0 [some (vR (some (5, 0, x))), some (vI a), none] rfl (Nat.le_of_ble_eq_true rfl) (by decide +kernel) ?_
  intro p_ e_ s_ m_ args_ below_ meth_ c_ hC hX hO
  refine V_iload_n hC kX5_ticks_0 rfl ?_
  refine V_cS_fI hC (cl_isTickCount hWr _) mkX5_isTickCount lmX5_217 kX5_ticks_1 rfl rfl (Nat.le_of_ble_eq_true rfl) ⟨(Nat.le_of_ble_eq_true rfl), (Nat.le_of_ble_eq_true rfl)⟩ ⟨rfl, rfl⟩ ⟨(Nat.le_of_ble_eq_true rfl), (Nat.le_of_ble_eq_true rfl)⟩ ?_
  refine V_if_ne hC 17 kX5_ticks_4 (by decide) (fun h4 => ?_) (fun h4 => ?_)
  · have hyes := b01n.mp h4
    obtain ⟨n, hn, rfl⟩ := n60 hyes
    refine V_aload_n hC kX5_ticks_17 rfl ?_
    refine V_getR hC hWr 5 3 lfX5_29 kX5_ticks_18 (Nat.le_of_ble_eq_true rfl) (Nat.le_of_ble_eq_true rfl) rfl ?_
    refine V_aload_n hC kX5_ticks_21 rfl ?_
    refine V_getR hC hWr 5 1 lfX5_19 kX5_ticks_22 (Nat.le_of_ble_eq_true rfl) (Nat.le_of_ble_eq_true rfl) rfl ?_
    refine V_cV_rV hC (cl_remember hWr hm hR hI (Or.inl (by omega))) mkX3_remember lmX5_172 kX5_ticks_25 (Nat.le_of_ble_eq_true rfl) rfl rfl rfl (Nat.le_of_ble_eq_true rfl) ⟨(Nat.le_of_ble_eq_true rfl), (Nat.le_of_ble_eq_true rfl)⟩ ⟨rfl, rfl⟩ ⟨(Nat.le_of_ble_eq_true rfl), (Nat.le_of_ble_eq_true rfl)⟩ (fun g25 h25 => ?_)
    refine V_aload_n hC kX5_ticks_28 rfl ?_
    refine V_getR hC hWr 5 1 lfX5_19 kX5_ticks_29 (Nat.le_of_ble_eq_true rfl) (Nat.le_of_ble_eq_true rfl) rfl ?_
    refine V_getI hC 1 6 lfX5_222 kX5_ticks_32 (Nat.le_of_ble_eq_true rfl) (Nat.le_of_ble_eq_true rfl) rfl ?_
    refine V_istore_n hC [some _, some _, some _] kX5_ticks_35 rfl (Nat.le_of_ble_eq_true rfl) ?_
    refine V_aload_n hC kX5_ticks_36 rfl ?_
    refine V_getR hC hWr 5 1 lfX5_19 kX5_ticks_37 (Nat.le_of_ble_eq_true rfl) (Nat.le_of_ble_eq_true rfl) rfl ?_
    refine V_iload_n hC kX5_ticks_40 rfl ?_
    refine V_cV_rV hC (cl_pass hWr (Rel_rem hR hI h25.2) hI (N := n) (by omega)) mkX1_pass lmX5_102 kX5_ticks_41 (Nat.le_of_ble_eq_true rfl) rfl rfl rfl (Nat.le_of_ble_eq_true rfl) ⟨(Nat.le_of_ble_eq_true rfl), (Nat.le_of_ble_eq_true rfl)⟩ ⟨rfl, rfl⟩ ⟨(Nat.le_of_ble_eq_true rfl), (Nat.le_of_ble_eq_true rfl)⟩ (fun g41 h41 => ?_)
    refine V_aload_n hC kX5_ticks_44 rfl ?_
    refine V_getR hC hWr 5 1 lfX5_19 kX5_ticks_45 (Nat.le_of_ble_eq_true rfl) (Nat.le_of_ble_eq_true rfl) rfl ?_
    refine V_getI hC 1 6 lfX5_222 kX5_ticks_48 (Nat.le_of_ble_eq_true rfl) (Nat.le_of_ble_eq_true rfl) rfl ?_
    refine V_iload_n hC kX5_ticks_51 rfl ?_
    refine V_isub hC kX5_ticks_52 ?_
    refine V_iretiX hC rfl kX5_ticks_53 ⟨(Nat.le_of_ble_eq_true rfl), (Nat.le_of_ble_eq_true rfl)⟩ ?_
    have en : tn (nI n) = n := nI_clamp (by omega)
    exact ⟨_, by with_reducible rfl, if_pos hyes, by rw [en, h41.1.c6, (Rel_rem hR hI h25.2).c6], by rw [en]; exact PM_of h25 h41.1 h41.2⟩
  · refine V_thS hC hX (cls := "java/lang/IllegalArgumentException") (text := "n is 1 to 60") thc1 (by decide +kernel) rfl kX5_ticks_7 kX5_ticks_10 kX5_ticks_11 kX5_ticks_13 kX5_ticks_16 ⟨(Nat.le_of_ble_eq_true rfl), (Nat.le_of_ble_eq_true rfl)⟩ ⟨(Nat.le_of_ble_eq_true rfl), (Nat.le_of_ble_eq_true rfl)⟩ ?_
    exact pY1 (if_neg (b01e.mp h4))
def mtX5_undo : Mt := (yX5_undo, cX5_undo, 1, (some .int), 7, 221, 1, 6)
theorem kX5_undo_0 : Dk mtX5_undo 0 (.aload_n 0) 1 1 := ⟨by decide +kernel, rfl⟩
theorem kX5_undo_1 : Dk mtX5_undo 1 (.getfield 29) 3 4 := ⟨by decide +kernel, rfl⟩
theorem kX5_undo_4 : Dk mtX5_undo 4 (.invokevirtual 225) 3 7 := ⟨by decide +kernel, rfl⟩
theorem kX5_undo_7 : Dk mtX5_undo 7 (.ifCond .ne 13) 3 10 := ⟨by decide +kernel, rfl⟩
theorem kX5_undo_10 : Dk mtX5_undo 10 (.new 44) 3 13 := ⟨by decide +kernel, rfl⟩
theorem kX5_undo_13 : Dk mtX5_undo 13 (.dup) 1 14 := ⟨by decide +kernel, rfl⟩
theorem kX5_undo_14 : Dk mtX5_undo 14 (.ldc 228) 2 16 := ⟨by decide +kernel, rfl⟩
theorem kX5_undo_16 : Dk mtX5_undo 16 (.invokespecial 48) 3 19 := ⟨by decide +kernel, rfl⟩
theorem kX5_undo_19 : Dk mtX5_undo 19 (.athrow) 1 20 := ⟨by decide +kernel, rfl⟩
theorem kX5_undo_20 : Dk mtX5_undo 20 (.aload_n 0) 1 21 := ⟨by decide +kernel, rfl⟩
theorem kX5_undo_21 : Dk mtX5_undo 21 (.getfield 29) 3 24 := ⟨by decide +kernel, rfl⟩
theorem kX5_undo_24 : Dk mtX5_undo 24 (.aload_n 0) 1 25 := ⟨by decide +kernel, rfl⟩
theorem kX5_undo_25 : Dk mtX5_undo 25 (.getfield 19) 3 28 := ⟨by decide +kernel, rfl⟩
theorem kX5_undo_28 : Dk mtX5_undo 28 (.invokevirtual 230) 3 31 := ⟨by decide +kernel, rfl⟩
theorem kX5_undo_31 : Dk mtX5_undo 31 (.ireturn) 1 32 := ⟨by decide +kernel, rfl⟩
theorem lmX5_225 : LkM RX5 225 mtX3_hasStates := Or.inl (by decide +kernel)
theorem mkX3_hasStates : MkV mtX3_hasStates 0 := ⟨List.mem_of_getElem? (i := 372) (by decide +kernel), by decide +kernel, by decide +kernel, by decide +kernel, ⟨by decide +kernel, by decide +kernel, by decide +kernel⟩⟩
theorem lmX5_230 : LkM RX5 230 mtX3_takeBack := Or.inl (by decide +kernel)
theorem mkX3_takeBack : MkV mtX3_takeBack 1 := ⟨List.mem_of_getElem? (i := 392) (by decide +kernel), by decide +kernel, by decide +kernel, by decide +kernel, ⟨by decide +kernel, by decide +kernel, by decide +kernel⟩⟩
set_option maxHeartbeats 4000000 in
set_option maxRecDepth 100000 in
theorem cf_undo {l : Launch} {w : Wd} {sg : Sg} (hWr : Wr w) (hl0 : l.stackTraces = false) {x : Nat} {g : Gs} (hR : Rel sg (x + 4) g) (hI : Inv g) {N : Nat} {G : Nat → Gs} {K : Nat → Bool} {S : Nat → Gs} (hm : MRel sg (x + 40) N G K S)  : MX l mtX5_undo w [vR (some (5, 0, x))] sg (rX (K_undo N) (fun r g2 => r = nI (N - 1) ∧ PM x (N - 1) G K S (G (N - 1)) sg g2)) (pY "java/lang/IllegalStateException" "java/lang/IllegalStateException" "java/lang/IllegalStateException" (K_undo N) sg) := by
  refine MX_of hl0 [some (vR (some (5, 0, x)))] rfl (Nat.le_of_ble_eq_true rfl) (by decide +kernel) ?_
  intro p_ e_ s_ m_ args_ below_ meth_ c_ hC hX hO
  refine V_aload_n hC kX5_undo_0 rfl ?_
  refine V_getR hC hWr 5 3 lfX5_29 kX5_undo_1 (Nat.le_of_ble_eq_true rfl) (Nat.le_of_ble_eq_true rfl) rfl ?_
  refine V_cV_fI hC (cl_hasStates hWr hm) mkX3_hasStates lmX5_225 kX5_undo_4 (Nat.le_of_ble_eq_true rfl) rfl rfl rfl (Nat.le_of_ble_eq_true rfl) ⟨(Nat.le_of_ble_eq_true rfl), (Nat.le_of_ble_eq_true rfl)⟩ ⟨rfl, rfl⟩ ⟨(Nat.le_of_ble_eq_true rfl), (Nat.le_of_ble_eq_true rfl)⟩ ?_
  refine V_if_ne hC 20 kX5_undo_7 (by decide) (fun h7 => ?_) (fun h7 => ?_)
  · refine V_aload_n hC kX5_undo_20 rfl ?_
    refine V_getR hC hWr 5 3 lfX5_29 kX5_undo_21 (Nat.le_of_ble_eq_true rfl) (Nat.le_of_ble_eq_true rfl) rfl ?_
    refine V_aload_n hC kX5_undo_24 rfl ?_
    refine V_getR hC hWr 5 1 lfX5_19 kX5_undo_25 (Nat.le_of_ble_eq_true rfl) (Nat.le_of_ble_eq_true rfl) rfl ?_
    refine V_cV_rI hC (cl_takeBack hWr hm (c := x + 4) (Or.inl (by omega)) hR.2.2.2.2 (b01n.mp h7)) mkX3_takeBack lmX5_230 kX5_undo_28 (Nat.le_of_ble_eq_true rfl) rfl rfl rfl (Nat.le_of_ble_eq_true rfl) ⟨(Nat.le_of_ble_eq_true rfl), (Nat.le_of_ble_eq_true rfl)⟩ ⟨rfl, rfl⟩ ⟨(Nat.le_of_ble_eq_true rfl), (Nat.le_of_ble_eq_true rfl)⟩ (fun x28 g28 h28 => ?_)
    refine V_iretiX hC rfl kX5_undo_31 ⟨(Nat.le_of_ble_eq_true rfl), (Nat.le_of_ble_eq_true rfl)⟩ ?_
    exact ⟨_, by with_reducible rfl, if_neg (b01n.mp h7), h28.1, h28.2.1, h28.2.2.1, fun k k1 k2 => h28.2.2.2 k (by omega) (by omega)⟩
  · refine V_thS hC hX (cls := "java/lang/IllegalStateException") (text := "no state is remembered") thc2 (by decide +kernel) rfl kX5_undo_10 kX5_undo_13 kX5_undo_14 kX5_undo_16 kX5_undo_19 ⟨(Nat.le_of_ble_eq_true rfl), (Nat.le_of_ble_eq_true rfl)⟩ ⟨(Nat.le_of_ble_eq_true rfl), (Nat.le_of_ble_eq_true rfl)⟩ ?_
    exact pY1 (if_pos (Classical.not_not.mp (b01e.mp h7)))
def mtX5_save : Mt := (yX5_save, cX5_save, 2, (some .int), 7, 221, 1, 6)
theorem kX5_save_0 : Dk mtX5_save 0 (.iload_n 1) 1 1 := ⟨by decide +kernel, rfl⟩
theorem kX5_save_1 : Dk mtX5_save 1 (.invokestatic 311) 3 4 := ⟨by decide +kernel, rfl⟩
theorem kX5_save_4 : Dk mtX5_save 4 (.ifCond .ne 14) 3 7 := ⟨by decide +kernel, rfl⟩
theorem kX5_save_7 : Dk mtX5_save 7 (.new 115) 3 10 := ⟨by decide +kernel, rfl⟩
theorem kX5_save_10 : Dk mtX5_save 10 (.dup) 1 11 := ⟨by decide +kernel, rfl⟩
theorem kX5_save_11 : Dk mtX5_save 11 (.ldc_w 314) 3 14 := ⟨by decide +kernel, rfl⟩
theorem kX5_save_14 : Dk mtX5_save 14 (.invokespecial 119) 3 17 := ⟨by decide +kernel, rfl⟩
theorem kX5_save_17 : Dk mtX5_save 17 (.athrow) 1 18 := ⟨by decide +kernel, rfl⟩
theorem kX5_save_18 : Dk mtX5_save 18 (.aload_n 0) 1 19 := ⟨by decide +kernel, rfl⟩
theorem kX5_save_19 : Dk mtX5_save 19 (.getfield 29) 3 22 := ⟨by decide +kernel, rfl⟩
theorem kX5_save_22 : Dk mtX5_save 22 (.iload_n 1) 1 23 := ⟨by decide +kernel, rfl⟩
theorem kX5_save_23 : Dk mtX5_save 23 (.aload_n 0) 1 24 := ⟨by decide +kernel, rfl⟩
theorem kX5_save_24 : Dk mtX5_save 24 (.getfield 19) 3 27 := ⟨by decide +kernel, rfl⟩
theorem kX5_save_27 : Dk mtX5_save 27 (.invokevirtual 316) 3 30 := ⟨by decide +kernel, rfl⟩
theorem kX5_save_30 : Dk mtX5_save 30 (.aload_n 0) 1 31 := ⟨by decide +kernel, rfl⟩
theorem kX5_save_31 : Dk mtX5_save 31 (.getfield 19) 3 34 := ⟨by decide +kernel, rfl⟩
theorem kX5_save_34 : Dk mtX5_save 34 (.getfield 140) 3 37 := ⟨by decide +kernel, rfl⟩
theorem kX5_save_37 : Dk mtX5_save 37 (.ireturn) 1 38 := ⟨by decide +kernel, rfl⟩
theorem lmX5_311 : LkM RX5 311 mtX3_isSlot := Or.inl (by decide +kernel)
theorem lmX5_316 : LkM RX5 316 mtX3_keep := Or.inl (by decide +kernel)
theorem mkX3_keep : MkV mtX3_keep 2 := ⟨List.mem_of_getElem? (i := 599) (by decide +kernel), by decide +kernel, by decide +kernel, by decide +kernel, ⟨by decide +kernel, by decide +kernel, by decide +kernel⟩⟩
set_option maxHeartbeats 4000000 in
set_option maxRecDepth 100000 in
theorem cf_save {l : Launch} {w : Wd} {sg : Sg} (hWr : Wr w) (hl0 : l.stackTraces = false) (a : Int32) {x : Nat} {g : Gs} (hR : Rel sg (x + 4) g) (hI : Inv g) {N : Nat} {G : Nat → Gs} {K : Nat → Bool} {S : Nat → Gs} (hm : MRel sg (x + 40) N G K S)  : MX l mtX5_save w [vR (some (5, 0, x)), vI a] sg (rX (K_slot a) (fun r g2 => r = g 6 ∧ PM x N G (fun i => if i = tn a then true else K i) (fun i => if i = tn a then g else S i) g sg g2)) (pY "java/lang/IndexOutOfBoundsException" "java/lang/IllegalArgumentException" "java/lang/IllegalArgumentException" (K_slot a) sg) := by
  refine MX_of hl0 [some (vR (some (5, 0, x))), some (vI a)] rfl (Nat.le_of_ble_eq_true rfl) (by decide +kernel) ?_
  intro p_ e_ s_ m_ args_ below_ meth_ c_ hC hX hO
  refine V_iload_n hC kX5_save_0 rfl ?_
  refine V_cS_fI hC (cl_isSlot hWr _) mkX3_isSlot lmX5_311 kX5_save_1 rfl rfl (Nat.le_of_ble_eq_true rfl) ⟨(Nat.le_of_ble_eq_true rfl), (Nat.le_of_ble_eq_true rfl)⟩ ⟨rfl, rfl⟩ ⟨(Nat.le_of_ble_eq_true rfl), (Nat.le_of_ble_eq_true rfl)⟩ ?_
  refine V_if_ne hC 18 kX5_save_4 (by decide) (fun h4 => ?_) (fun h4 => ?_)
  · have hyes := b01n.mp h4
    obtain ⟨j, hj, rfl⟩ := vp_in_of (inn_vp (m := 2) (by decide) hyes) (by decide)
    have en : tn (nI j) = j := nI_clamp (by omega)
    refine V_aload_n hC kX5_save_18 rfl ?_
    refine V_getR hC hWr 5 3 lfX5_29 kX5_save_19 (Nat.le_of_ble_eq_true rfl) (Nat.le_of_ble_eq_true rfl) rfl ?_
    refine V_iload_n hC kX5_save_22 rfl ?_
    refine V_aload_n hC kX5_save_23 rfl ?_
    refine V_getR hC hWr 5 1 lfX5_19 kX5_save_24 (Nat.le_of_ble_eq_true rfl) (Nat.le_of_ble_eq_true rfl) rfl ?_
    refine V_cV_rV hC (cl_keep hWr hm hR hI (Or.inl (by omega)) hj) mkX3_keep lmX5_316 kX5_save_27 (Nat.le_of_ble_eq_true rfl) rfl rfl rfl (Nat.le_of_ble_eq_true rfl) ⟨(Nat.le_of_ble_eq_true rfl), (Nat.le_of_ble_eq_true rfl)⟩ ⟨rfl, rfl⟩ ⟨(Nat.le_of_ble_eq_true rfl), (Nat.le_of_ble_eq_true rfl)⟩ (fun g27 h27 => ?_)
    refine V_aload_n hC kX5_save_30 rfl ?_
    refine V_getR hC hWr 5 1 lfX5_19 kX5_save_31 (Nat.le_of_ble_eq_true rfl) (Nat.le_of_ble_eq_true rfl) rfl ?_
    refine V_getI hC 1 5 lfX5_140 kX5_save_34 (Nat.le_of_ble_eq_true rfl) (Nat.le_of_ble_eq_true rfl) rfl ?_
    refine V_iretiX hC rfl kX5_save_37 ⟨(Nat.le_of_ble_eq_true rfl), (Nat.le_of_ble_eq_true rfl)⟩ ?_
    exact ⟨_, by with_reducible rfl, if_pos hyes, (Rel_rem hR hI h27.2).c5, by rw [en]; exact PM_of h27 (Rel_rem hR hI h27.2) (Fr.rf _ _)⟩
  · refine V_thW hC hX (cls := "java/lang/IndexOutOfBoundsException") (text := "a save slot is 0 or 1") thc3 (by decide +kernel) rfl kX5_save_7 kX5_save_10 kX5_save_11 kX5_save_14 kX5_save_17 ⟨(Nat.le_of_ble_eq_true rfl), (Nat.le_of_ble_eq_true rfl)⟩ ⟨(Nat.le_of_ble_eq_true rfl), (Nat.le_of_ble_eq_true rfl)⟩ ?_
    exact pY1 (if_neg (b01e.mp h4))
def mtX5_restore : Mt := (yX5_restore, cX5_restore, 2, (some .int), 7, 221, 1, 6)
theorem kX5_restore_0 : Dk mtX5_restore 0 (.iload_n 1) 1 1 := ⟨by decide +kernel, rfl⟩
theorem kX5_restore_1 : Dk mtX5_restore 1 (.invokestatic 311) 3 4 := ⟨by decide +kernel, rfl⟩
theorem kX5_restore_4 : Dk mtX5_restore 4 (.ifCond .ne 14) 3 7 := ⟨by decide +kernel, rfl⟩
theorem kX5_restore_7 : Dk mtX5_restore 7 (.new 115) 3 10 := ⟨by decide +kernel, rfl⟩
theorem kX5_restore_10 : Dk mtX5_restore 10 (.dup) 1 11 := ⟨by decide +kernel, rfl⟩
theorem kX5_restore_11 : Dk mtX5_restore 11 (.ldc_w 314) 3 14 := ⟨by decide +kernel, rfl⟩
theorem kX5_restore_14 : Dk mtX5_restore 14 (.invokespecial 119) 3 17 := ⟨by decide +kernel, rfl⟩
theorem kX5_restore_17 : Dk mtX5_restore 17 (.athrow) 1 18 := ⟨by decide +kernel, rfl⟩
theorem kX5_restore_18 : Dk mtX5_restore 18 (.aload_n 0) 1 19 := ⟨by decide +kernel, rfl⟩
theorem kX5_restore_19 : Dk mtX5_restore 19 (.getfield 29) 3 22 := ⟨by decide +kernel, rfl⟩
theorem kX5_restore_22 : Dk mtX5_restore 22 (.iload_n 1) 1 23 := ⟨by decide +kernel, rfl⟩
theorem kX5_restore_23 : Dk mtX5_restore 23 (.invokevirtual 320) 3 26 := ⟨by decide +kernel, rfl⟩
theorem kX5_restore_26 : Dk mtX5_restore 26 (.ifCond .ne 14) 3 29 := ⟨by decide +kernel, rfl⟩
theorem kX5_restore_29 : Dk mtX5_restore 29 (.new 44) 3 32 := ⟨by decide +kernel, rfl⟩
theorem kX5_restore_32 : Dk mtX5_restore 32 (.dup) 1 33 := ⟨by decide +kernel, rfl⟩
theorem kX5_restore_33 : Dk mtX5_restore 33 (.ldc_w 323) 3 36 := ⟨by decide +kernel, rfl⟩
theorem kX5_restore_36 : Dk mtX5_restore 36 (.invokespecial 48) 3 39 := ⟨by decide +kernel, rfl⟩
theorem kX5_restore_39 : Dk mtX5_restore 39 (.athrow) 1 40 := ⟨by decide +kernel, rfl⟩
theorem kX5_restore_40 : Dk mtX5_restore 40 (.aload_n 0) 1 41 := ⟨by decide +kernel, rfl⟩
theorem kX5_restore_41 : Dk mtX5_restore 41 (.getfield 29) 3 44 := ⟨by decide +kernel, rfl⟩
theorem kX5_restore_44 : Dk mtX5_restore 44 (.iload_n 1) 1 45 := ⟨by decide +kernel, rfl⟩
theorem kX5_restore_45 : Dk mtX5_restore 45 (.aload_n 0) 1 46 := ⟨by decide +kernel, rfl⟩
theorem kX5_restore_46 : Dk mtX5_restore 46 (.getfield 19) 3 49 := ⟨by decide +kernel, rfl⟩
theorem kX5_restore_49 : Dk mtX5_restore 49 (.invokevirtual 325) 3 52 := ⟨by decide +kernel, rfl⟩
theorem kX5_restore_52 : Dk mtX5_restore 52 (.aload_n 0) 1 53 := ⟨by decide +kernel, rfl⟩
theorem kX5_restore_53 : Dk mtX5_restore 53 (.getfield 19) 3 56 := ⟨by decide +kernel, rfl⟩
theorem kX5_restore_56 : Dk mtX5_restore 56 (.getfield 140) 3 59 := ⟨by decide +kernel, rfl⟩
theorem kX5_restore_59 : Dk mtX5_restore 59 (.ireturn) 1 60 := ⟨by decide +kernel, rfl⟩
theorem lmX5_320 : LkM RX5 320 mtX3_isKept := Or.inl (by decide +kernel)
theorem mkX3_isKept : MkV mtX3_isKept 1 := ⟨List.mem_of_getElem? (i := 611) (by decide +kernel), by decide +kernel, by decide +kernel, by decide +kernel, ⟨by decide +kernel, by decide +kernel, by decide +kernel⟩⟩
theorem lmX5_325 : LkM RX5 325 mtX3_bring := Or.inl (by decide +kernel)
theorem mkX3_bring : MkV mtX3_bring 2 := ⟨List.mem_of_getElem? (i := 617) (by decide +kernel), by decide +kernel, by decide +kernel, by decide +kernel, ⟨by decide +kernel, by decide +kernel, by decide +kernel⟩⟩
set_option maxHeartbeats 4000000 in
set_option maxRecDepth 100000 in
theorem cf_restore {l : Launch} {w : Wd} {sg : Sg} (hWr : Wr w) (hl0 : l.stackTraces = false) (a : Int32) {x : Nat} {g : Gs} (hR : Rel sg (x + 4) g) (hI : Inv g) {N : Nat} {G : Nat → Gs} {K : Nat → Bool} {S : Nat → Gs} (hm : MRel sg (x + 40) N G K S)  : MX l mtX5_restore w [vR (some (5, 0, x)), vI a] sg (rX (KR K a) (fun r g2 => r = S (tn a) 6 ∧ PM x 0 G K S (S (tn a)) sg g2)) (pY "java/lang/IndexOutOfBoundsException" "java/lang/IllegalStateException" "java/lang/IllegalStateException" (KR K a) sg) := by
  refine MX_of hl0 [some (vR (some (5, 0, x))), some (vI a)] rfl (Nat.le_of_ble_eq_true rfl) (by decide +kernel) ?_
  intro p_ e_ s_ m_ args_ below_ meth_ c_ hC hX hO
  refine V_iload_n hC kX5_restore_0 rfl ?_
  refine V_cS_fI hC (cl_isSlot hWr _) mkX3_isSlot lmX5_311 kX5_restore_1 rfl rfl (Nat.le_of_ble_eq_true rfl) ⟨(Nat.le_of_ble_eq_true rfl), (Nat.le_of_ble_eq_true rfl)⟩ ⟨rfl, rfl⟩ ⟨(Nat.le_of_ble_eq_true rfl), (Nat.le_of_ble_eq_true rfl)⟩ ?_
  refine V_if_ne hC 18 kX5_restore_4 (by decide) (fun h4 => ?_) (fun h4 => ?_)
  · have hyes := b01n.mp h4
    obtain ⟨j, hj, rfl⟩ := vp_in_of (inn_vp (m := 2) (by decide) hyes) (by decide)
    have en : tn (nI j) = j := nI_clamp (by omega)
    refine V_aload_n hC kX5_restore_18 rfl ?_
    refine V_getR hC hWr 5 3 lfX5_29 kX5_restore_19 (Nat.le_of_ble_eq_true rfl) (Nat.le_of_ble_eq_true rfl) rfl ?_
    refine V_iload_n hC kX5_restore_22 rfl ?_
    refine V_cV_fI hC (cl_isKept hWr hm hj) mkX3_isKept lmX5_320 kX5_restore_23 (Nat.le_of_ble_eq_true rfl) rfl rfl rfl (Nat.le_of_ble_eq_true rfl) ⟨(Nat.le_of_ble_eq_true rfl), (Nat.le_of_ble_eq_true rfl)⟩ ⟨rfl, rfl⟩ ⟨(Nat.le_of_ble_eq_true rfl), (Nat.le_of_ble_eq_true rfl)⟩ ?_
    refine V_if_ne hC 40 kX5_restore_26 (by decide) (fun h26 => ?_) (fun h26 => ?_)
    · refine V_aload_n hC kX5_restore_40 rfl ?_
      refine V_getR hC hWr 5 3 lfX5_29 kX5_restore_41 (Nat.le_of_ble_eq_true rfl) (Nat.le_of_ble_eq_true rfl) rfl ?_
      refine V_iload_n hC kX5_restore_44 rfl ?_
      refine V_aload_n hC kX5_restore_45 rfl ?_
      refine V_getR hC hWr 5 1 lfX5_19 kX5_restore_46 (Nat.le_of_ble_eq_true rfl) (Nat.le_of_ble_eq_true rfl) rfl ?_
      refine V_cV_rV hC (cl_bring hWr hm (c := x + 4) (Or.inl (by omega)) hR.2.2.2.2 hj (b01n.mp h26)) mkX3_bring lmX5_325 kX5_restore_49 (Nat.le_of_ble_eq_true rfl) rfl rfl rfl (Nat.le_of_ble_eq_true rfl) ⟨(Nat.le_of_ble_eq_true rfl), (Nat.le_of_ble_eq_true rfl)⟩ ⟨rfl, rfl⟩ ⟨(Nat.le_of_ble_eq_true rfl), (Nat.le_of_ble_eq_true rfl)⟩ (fun g49 h49 => ?_)
      refine V_aload_n hC kX5_restore_52 rfl ?_
      refine V_getR hC hWr 5 1 lfX5_19 kX5_restore_53 (Nat.le_of_ble_eq_true rfl) (Nat.le_of_ble_eq_true rfl) rfl ?_
      refine V_getI hC 1 5 lfX5_140 kX5_restore_56 (Nat.le_of_ble_eq_true rfl) (Nat.le_of_ble_eq_true rfl) rfl ?_
      refine V_iretiX hC rfl kX5_restore_59 ⟨(Nat.le_of_ble_eq_true rfl), (Nat.le_of_ble_eq_true rfl)⟩ ?_
      exact ⟨_, by with_reducible rfl, (if_pos hyes).trans (if_pos (by rw [en]; exact b01n.mp h26)), by rw [en]; exact h49.2.1.c5, by rw [en]; exact ⟨h49.1, h49.2.1, fun k k1 k2 => h49.2.2 k (by omega) (by omega)⟩⟩
    · refine V_thW hC hX (cls := "java/lang/IllegalStateException") (text := "nothing has been saved in the slot") thc2 (by decide +kernel) rfl kX5_restore_29 kX5_restore_32 kX5_restore_33 kX5_restore_36 kX5_restore_39 ⟨(Nat.le_of_ble_eq_true rfl), (Nat.le_of_ble_eq_true rfl)⟩ ⟨(Nat.le_of_ble_eq_true rfl), (Nat.le_of_ble_eq_true rfl)⟩ ?_
      exact pY2 ((if_pos hyes).trans (if_neg (by rw [en]; exact b01e.mp h26)))
  · refine V_thW hC hX (cls := "java/lang/IndexOutOfBoundsException") (text := "a save slot is 0 or 1") thc3 (by decide +kernel) rfl kX5_restore_7 kX5_restore_10 kX5_restore_11 kX5_restore_14 kX5_restore_17 ⟨(Nat.le_of_ble_eq_true rfl), (Nat.le_of_ble_eq_true rfl)⟩ ⟨(Nat.le_of_ble_eq_true rfl), (Nat.le_of_ble_eq_true rfl)⟩ ?_
    exact pY1 (if_neg (b01e.mp h4))
