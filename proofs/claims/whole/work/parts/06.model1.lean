-- HOW ct_in fI
-- HOW ct_fails fI
-- HOW ct_of fI
-- HOW ct_ofBoat fI
-- HOW ct_layBoat fV
-- HOW ct_isLight fI
-- HOW ct_isBoat fI
-- HOW ct_isPlace fI
-- HOW ct_bright fI
-- HOW ct_worth fI
-- HOW ct_serves fI
-- HOW ct_best fI
-- HOW ct_sails fV
-- HOW ct_drops fV
-- HOW ct_wished fI
-- HOW ct_hands fV
def mtX6_in : Mt := (yX6_in, cX6_in, 3, (some .boolean), 0, 0, 0, 0)
theorem kX6_in_0 : Dk mtX6_in 0 (.iload_n 0) 1 1 := ⟨by decide +kernel, rfl⟩
theorem kX6_in_1 : Dk mtX6_in 1 (.iload_n 1) 1 2 := ⟨by decide +kernel, rfl⟩
theorem kX6_in_2 : Dk mtX6_in 2 (.if_icmp .lt 12) 3 5 := ⟨by decide +kernel, rfl⟩
theorem kX6_in_5 : Dk mtX6_in 5 (.iload_n 0) 1 6 := ⟨by decide +kernel, rfl⟩
theorem kX6_in_6 : Dk mtX6_in 6 (.iload_n 2) 1 7 := ⟨by decide +kernel, rfl⟩
theorem kX6_in_7 : Dk mtX6_in 7 (.if_icmp .gt 7) 3 10 := ⟨by decide +kernel, rfl⟩
theorem kX6_in_10 : Dk mtX6_in 10 (.iconst 1) 1 11 := ⟨by decide +kernel, rfl⟩
theorem kX6_in_11 : Dk mtX6_in 11 (.goto 4) 3 14 := ⟨by decide +kernel, rfl⟩
theorem kX6_in_14 : Dk mtX6_in 14 (.iconst 0) 1 15 := ⟨by decide +kernel, rfl⟩
theorem kX6_in_15 : Dk mtX6_in 15 (.ireturn) 1 16 := ⟨by decide +kernel, rfl⟩
set_option maxHeartbeats 4000000 in
set_option maxRecDepth 100000 in
theorem ct_in {l : Launch} {w : Wd} {sg : Sg} (hWr : Wr w) (v a b : Int32) : M l mtX6_in w [vI v, vI a, vI b] sg (fI (b01 (inn v a b)) sg) := by
  refine M_of [some (vI v), some (vI a), some (vI b)] rfl (Nat.le_of_ble_eq_true rfl) (by decide +kernel) ?_
  intro p_ e_ s_ m_ args_ below_ meth_ c_ hC hO
  refine V_iload_n hC kX6_in_0 rfl ?_
  refine V_iload_n hC kX6_in_1 rfl ?_
  refine V_icmp_lt hC 14 kX6_in_2 (by decide) (fun h2 => ?_) (fun h2 => ?_)
  · refine V_iconst hC (0) kX6_in_14 (by decide) ?_
    refine V_iretz hC rfl kX6_in_15 ?_ ?_
    · first | exact Or.inl rfl | exact Or.inr rfl
    · refine ⟨?_, rfl⟩
      first | exact cI (b01_t ⟨Int32.not_lt.mp h2, Int32.not_lt.mp h7⟩).symm | exact cI (b01_f (fun q => absurd q.1 (Int32.not_le.mpr h2))).symm | exact cI (b01_f (fun q => absurd q.2 (Int32.not_le.mpr h7))).symm
  · refine V_iload_n hC kX6_in_5 rfl ?_
    refine V_iload_n hC kX6_in_6 rfl ?_
    refine V_icmp_gt hC 14 kX6_in_7 (by decide) (fun h7 => ?_) (fun h7 => ?_)
    · refine V_iconst hC (0) kX6_in_14 (by decide) ?_
      refine V_iretz hC rfl kX6_in_15 ?_ ?_
      · first | exact Or.inl rfl | exact Or.inr rfl
      · refine ⟨?_, rfl⟩
        first | exact cI (b01_t ⟨Int32.not_lt.mp h2, Int32.not_lt.mp h7⟩).symm | exact cI (b01_f (fun q => absurd q.1 (Int32.not_le.mpr h2))).symm | exact cI (b01_f (fun q => absurd q.2 (Int32.not_le.mpr h7))).symm
    · refine V_iconst hC (1) kX6_in_10 (by decide) ?_
      refine V_goto hC 15 kX6_in_11 (by decide) ?_
      refine V_iretz hC rfl kX6_in_15 ?_ ?_
      · first | exact Or.inl rfl | exact Or.inr rfl
      · refine ⟨?_, rfl⟩
        first | exact cI (b01_t ⟨Int32.not_lt.mp h2, Int32.not_lt.mp h7⟩).symm | exact cI (b01_f (fun q => absurd q.1 (Int32.not_le.mpr h2))).symm | exact cI (b01_f (fun q => absurd q.2 (Int32.not_le.mpr h7))).symm
def mtX6_fails : Mt := (yX6_fails, cX6_fails, 2, (some .int), 0, 0, 0, 0)
theorem kX6_fails_0 : Dk mtX6_fails 0 (.aload_n 0) 1 1 := ⟨by decide +kernel, rfl⟩
theorem kX6_fails_1 : Dk mtX6_fails 1 (.iload_n 1) 1 2 := ⟨by decide +kernel, rfl⟩
theorem kX6_fails_2 : Dk mtX6_fails 2 (.putfield 32) 3 5 := ⟨by decide +kernel, rfl⟩
theorem kX6_fails_5 : Dk mtX6_fails 5 (.iconst 0) 1 6 := ⟨by decide +kernel, rfl⟩
theorem kX6_fails_6 : Dk mtX6_fails 6 (.ireturn) 1 7 := ⟨by decide +kernel, rfl⟩
theorem lfX6_32 : LkF RX6 32 6 0 := Or.inl (by decide +kernel)
set_option maxHeartbeats 4000000 in
set_option maxRecDepth 100000 in
theorem ct_fails {l : Launch} {w : Wd} {sg : Sg} (hWr : Wr w) {mo : Nat} (x : Int32) : M l mtX6_fails w [vR (some (6, 0, mo)), vI x] sg (fI 0 (ups sg mo 0 x)) := by
  refine M_of [some (vR (some (6, 0, mo))), some (vI x)] rfl (Nat.le_of_ble_eq_true rfl) (by decide +kernel) ?_
  intro p_ e_ s_ m_ args_ below_ meth_ c_ hC hO
  refine V_aload_n hC kX6_fails_0 rfl ?_
  refine V_iload_n hC kX6_fails_1 rfl ?_
  refine V_putI hC 6 0 lfX6_32 kX6_fails_2 (Nat.le_of_ble_eq_true rfl) (Nat.le_of_ble_eq_true rfl) rfl rfl ⟨rfl, rfl⟩ ?_
  refine V_iconst hC (0) kX6_fails_5 (by decide) ?_
  refine V_ireti hC rfl kX6_fails_6 ?_
  exact ⟨by with_reducible rfl, by with_reducible rfl⟩
def mtX6_of : Mt := (yX6_of, cX6_of, 3, (some .int), 0, 0, 0, 0)
theorem kX6_of_0 : Dk mtX6_of 0 (.aload_n 0) 1 1 := ⟨by decide +kernel, rfl⟩
theorem kX6_of_1 : Dk mtX6_of 1 (.getfield 7) 3 4 := ⟨by decide +kernel, rfl⟩
theorem kX6_of_4 : Dk mtX6_of 4 (.bipush 12) 2 6 := ⟨by decide +kernel, rfl⟩
theorem kX6_of_6 : Dk mtX6_of 6 (.bipush 8) 2 8 := ⟨by decide +kernel, rfl⟩
theorem kX6_of_8 : Dk mtX6_of 8 (.iload_n 1) 1 9 := ⟨by decide +kernel, rfl⟩
theorem kX6_of_9 : Dk mtX6_of 9 (.imul) 1 10 := ⟨by decide +kernel, rfl⟩
theorem kX6_of_10 : Dk mtX6_of 10 (.iadd) 1 11 := ⟨by decide +kernel, rfl⟩
theorem kX6_of_11 : Dk mtX6_of 11 (.iload_n 2) 1 12 := ⟨by decide +kernel, rfl⟩
theorem kX6_of_12 : Dk mtX6_of 12 (.iadd) 1 13 := ⟨by decide +kernel, rfl⟩
theorem kX6_of_13 : Dk mtX6_of 13 (.iaload) 1 14 := ⟨by decide +kernel, rfl⟩
theorem kX6_of_14 : Dk mtX6_of 14 (.ireturn) 1 15 := ⟨by decide +kernel, rfl⟩
theorem lfX6_7 : LkF RX6 7 6 1 := Or.inl (by decide +kernel)
set_option maxHeartbeats 4000000 in
set_option maxRecDepth 100000 in
theorem ct_of {l : Launch} {w : Wd} {sg : Sg} (hWr : Wr w) {mo : Nat} (a j : Int32) (ha : vp_in a 6) (hj : vp_in j 8) : M l mtX6_of w [vR (some (6, 0, mo)), vI a, vI j] sg (fI (gL (sg (mo + 1)) a j) sg) := by
  refine M_of [some (vR (some (6, 0, mo))), some (vI a), some (vI j)] rfl (Nat.le_of_ble_eq_true rfl) (by decide +kernel) ?_
  intro p_ e_ s_ m_ args_ below_ meth_ c_ hC hO
  refine V_aload_n hC kX6_of_0 rfl ?_
  refine V_getR hC hWr 6 1 lfX6_7 kX6_of_1 (Nat.le_of_ble_eq_true rfl) (Nat.le_of_ble_eq_true rfl) rfl ?_
  refine V_bipush hC (12) kX6_of_4 (by decide) ?_
  refine V_bipush hC (8) kX6_of_6 (by decide) ?_
  refine V_iload_n hC kX6_of_8 rfl ?_
  refine V_imul hC kX6_of_9 ?_
  refine V_iadd hC kX6_of_10 ?_
  refine V_iload_n hC kX6_of_11 rfl ?_
  refine V_iadd hC kX6_of_12 ?_
  refine V_iald hC _ rfl kX6_of_13 (inL ha hj) ?_
  refine V_ireti hC rfl kX6_of_14 ?_
  refine ⟨cI ?_, by with_reducible rfl⟩
  unfold gL tn
  with_reducible rfl
def mtX6_ofBoat : Mt := (yX6_ofBoat, cX6_ofBoat, 3, (some .int), 0, 0, 0, 0)
theorem kX6_ofBoat_0 : Dk mtX6_ofBoat 0 (.aload_n 0) 1 1 := ⟨by decide +kernel, rfl⟩
theorem kX6_ofBoat_1 : Dk mtX6_ofBoat 1 (.getfield 7) 3 4 := ⟨by decide +kernel, rfl⟩
theorem kX6_ofBoat_4 : Dk mtX6_ofBoat 4 (.bipush 60) 2 6 := ⟨by decide +kernel, rfl⟩
theorem kX6_ofBoat_6 : Dk mtX6_ofBoat 6 (.bipush 10) 2 8 := ⟨by decide +kernel, rfl⟩
theorem kX6_ofBoat_8 : Dk mtX6_ofBoat 8 (.iload_n 1) 1 9 := ⟨by decide +kernel, rfl⟩
theorem kX6_ofBoat_9 : Dk mtX6_ofBoat 9 (.imul) 1 10 := ⟨by decide +kernel, rfl⟩
theorem kX6_ofBoat_10 : Dk mtX6_ofBoat 10 (.iadd) 1 11 := ⟨by decide +kernel, rfl⟩
theorem kX6_ofBoat_11 : Dk mtX6_ofBoat 11 (.iload_n 2) 1 12 := ⟨by decide +kernel, rfl⟩
theorem kX6_ofBoat_12 : Dk mtX6_ofBoat 12 (.iadd) 1 13 := ⟨by decide +kernel, rfl⟩
theorem kX6_ofBoat_13 : Dk mtX6_ofBoat 13 (.iaload) 1 14 := ⟨by decide +kernel, rfl⟩
theorem kX6_ofBoat_14 : Dk mtX6_ofBoat 14 (.ireturn) 1 15 := ⟨by decide +kernel, rfl⟩
set_option maxHeartbeats 4000000 in
set_option maxRecDepth 100000 in
theorem ct_ofBoat {l : Launch} {w : Wd} {sg : Sg} (hWr : Wr w) {mo : Nat} (a j : Int32) (ha : vp_in a 8) (hj : vp_in j 10) : M l mtX6_ofBoat w [vR (some (6, 0, mo)), vI a, vI j] sg (fI (gB (sg (mo + 1)) a j) sg) := by
  refine M_of [some (vR (some (6, 0, mo))), some (vI a), some (vI j)] rfl (Nat.le_of_ble_eq_true rfl) (by decide +kernel) ?_
  intro p_ e_ s_ m_ args_ below_ meth_ c_ hC hO
  refine V_aload_n hC kX6_ofBoat_0 rfl ?_
  refine V_getR hC hWr 6 1 lfX6_7 kX6_ofBoat_1 (Nat.le_of_ble_eq_true rfl) (Nat.le_of_ble_eq_true rfl) rfl ?_
  refine V_bipush hC (60) kX6_ofBoat_4 (by decide) ?_
  refine V_bipush hC (10) kX6_ofBoat_6 (by decide) ?_
  refine V_iload_n hC kX6_ofBoat_8 rfl ?_
  refine V_imul hC kX6_ofBoat_9 ?_
  refine V_iadd hC kX6_ofBoat_10 ?_
  refine V_iload_n hC kX6_ofBoat_11 rfl ?_
  refine V_iadd hC kX6_ofBoat_12 ?_
  refine V_iald hC _ rfl kX6_ofBoat_13 (inB ha hj) ?_
  refine V_ireti hC rfl kX6_ofBoat_14 ?_
  refine ⟨cI ?_, by with_reducible rfl⟩
  unfold gB tn
  with_reducible rfl
def mtX6_layBoat : Mt := (yX6_layBoat, cX6_layBoat, 4, none, 0, 0, 0, 0)
theorem kX6_layBoat_0 : Dk mtX6_layBoat 0 (.aload_n 0) 1 1 := ⟨by decide +kernel, rfl⟩
theorem kX6_layBoat_1 : Dk mtX6_layBoat 1 (.getfield 7) 3 4 := ⟨by decide +kernel, rfl⟩
theorem kX6_layBoat_4 : Dk mtX6_layBoat 4 (.bipush 60) 2 6 := ⟨by decide +kernel, rfl⟩
theorem kX6_layBoat_6 : Dk mtX6_layBoat 6 (.bipush 10) 2 8 := ⟨by decide +kernel, rfl⟩
theorem kX6_layBoat_8 : Dk mtX6_layBoat 8 (.iload_n 1) 1 9 := ⟨by decide +kernel, rfl⟩
theorem kX6_layBoat_9 : Dk mtX6_layBoat 9 (.imul) 1 10 := ⟨by decide +kernel, rfl⟩
theorem kX6_layBoat_10 : Dk mtX6_layBoat 10 (.iadd) 1 11 := ⟨by decide +kernel, rfl⟩
theorem kX6_layBoat_11 : Dk mtX6_layBoat 11 (.iload_n 2) 1 12 := ⟨by decide +kernel, rfl⟩
theorem kX6_layBoat_12 : Dk mtX6_layBoat 12 (.iadd) 1 13 := ⟨by decide +kernel, rfl⟩
theorem kX6_layBoat_13 : Dk mtX6_layBoat 13 (.iload_n 3) 1 14 := ⟨by decide +kernel, rfl⟩
theorem kX6_layBoat_14 : Dk mtX6_layBoat 14 (.iastore) 1 15 := ⟨by decide +kernel, rfl⟩
theorem kX6_layBoat_15 : Dk mtX6_layBoat 15 (.return_) 1 16 := ⟨by decide +kernel, rfl⟩
set_option maxHeartbeats 4000000 in
set_option maxRecDepth 100000 in
theorem ct_layBoat {l : Launch} {w : Wd} {sg : Sg} (hWr : Wr w) {mo : Nat} (a j x : Int32) (ha : vp_in a 8) (hj : vp_in j 10) : M l mtX6_layBoat w [vR (some (6, 0, mo)), vI a, vI j, vI x] sg (fV0 (upr sg (mo + 1) (pB (sg (mo + 1)) a j x))) := by
  refine M_of [some (vR (some (6, 0, mo))), some (vI a), some (vI j), some (vI x)] rfl (Nat.le_of_ble_eq_true rfl) (by decide +kernel) ?_
  intro p_ e_ s_ m_ args_ below_ meth_ c_ hC hO
  refine V_aload_n hC kX6_layBoat_0 rfl ?_
  refine V_getR hC hWr 6 1 lfX6_7 kX6_layBoat_1 (Nat.le_of_ble_eq_true rfl) (Nat.le_of_ble_eq_true rfl) rfl ?_
  refine V_bipush hC (60) kX6_layBoat_4 (by decide) ?_
  refine V_bipush hC (10) kX6_layBoat_6 (by decide) ?_
  refine V_iload_n hC kX6_layBoat_8 rfl ?_
  refine V_imul hC kX6_layBoat_9 ?_
  refine V_iadd hC kX6_layBoat_10 ?_
  refine V_iload_n hC kX6_layBoat_11 rfl ?_
  refine V_iadd hC kX6_layBoat_12 ?_
  refine V_iload_n hC kX6_layBoat_13 rfl ?_
  refine V_iast hC _ rfl kX6_layBoat_14 (inB ha hj) ?_
  refine V_vret hC rfl kX6_layBoat_15 ?_
  refine ⟨by with_reducible rfl, ?_⟩
  unfold pB tn ups
  with_reducible rfl
def mtX6_isLight : Mt := (yX6_isLight, cX6_isLight, 2, (some .boolean), 1, 22, 0, 0)
theorem kX6_isLight_0 : Dk mtX6_isLight 0 (.iload_n 1) 1 1 := ⟨by decide +kernel, rfl⟩
theorem kX6_isLight_1 : Dk mtX6_isLight 1 (.iconst 0) 1 2 := ⟨by decide +kernel, rfl⟩
theorem kX6_isLight_2 : Dk mtX6_isLight 2 (.aload_n 0) 1 3 := ⟨by decide +kernel, rfl⟩
theorem kX6_isLight_3 : Dk mtX6_isLight 3 (.getfield 7) 3 6 := ⟨by decide +kernel, rfl⟩
theorem kX6_isLight_6 : Dk mtX6_isLight 6 (.iconst 4) 1 7 := ⟨by decide +kernel, rfl⟩
theorem kX6_isLight_7 : Dk mtX6_isLight 7 (.iaload) 1 8 := ⟨by decide +kernel, rfl⟩
theorem kX6_isLight_8 : Dk mtX6_isLight 8 (.iconst 1) 1 9 := ⟨by decide +kernel, rfl⟩
theorem kX6_isLight_9 : Dk mtX6_isLight 9 (.isub) 1 10 := ⟨by decide +kernel, rfl⟩
theorem kX6_isLight_10 : Dk mtX6_isLight 10 (.invokestatic 39) 3 13 := ⟨by decide +kernel, rfl⟩
theorem kX6_isLight_13 : Dk mtX6_isLight 13 (.ireturn) 1 14 := ⟨by decide +kernel, rfl⟩
theorem lmX6_39 : LkM RX6 39 mtX6_in := Or.inl (by decide +kernel)
theorem mkX6_in : MkS mtX6_in 3 := ⟨List.mem_of_getElem? (i := 1078) (by decide +kernel), by decide +kernel, by decide +kernel, ⟨by decide +kernel, by decide +kernel, by decide +kernel⟩⟩
set_option maxHeartbeats 4000000 in
set_option maxRecDepth 100000 in
theorem ct_isLight {l : Launch} {w : Wd} {sg : Sg} (hWr : Wr w) {mo : Nat} (a : Int32) : M l mtX6_isLight w [vR (some (6, 0, mo)), vI a] sg (fI (b01 (inn a 0 ((sg (mo + 1)) 4 - 1))) sg) := by
  refine M_of [some (vR (some (6, 0, mo))), some (vI a)] rfl (Nat.le_of_ble_eq_true rfl) (by decide +kernel) ?_
  intro p_ e_ s_ m_ args_ below_ meth_ c_ hC hO
  refine V_iload_n hC kX6_isLight_0 rfl ?_
  refine V_iconst hC (0) kX6_isLight_1 (by decide) ?_
  refine V_aload_n hC kX6_isLight_2 rfl ?_
  refine V_getR hC hWr 6 1 lfX6_7 kX6_isLight_3 (Nat.le_of_ble_eq_true rfl) (Nat.le_of_ble_eq_true rfl) rfl ?_
  refine V_iconst hC (4) kX6_isLight_6 (by decide) ?_
  refine V_iald hC 4 rfl kX6_isLight_7 (vp_lit rfl) ?_
  refine V_iconst hC (1) kX6_isLight_8 (by decide) ?_
  refine V_isub hC kX6_isLight_9 ?_
  refine V_cS_fI hC (ct_in hWr _ _ _) mkX6_in lmX6_39 kX6_isLight_10 rfl rfl (Nat.le_of_ble_eq_true rfl) ⟨(Nat.le_of_ble_eq_true rfl), (Nat.le_of_ble_eq_true rfl)⟩ ⟨rfl, rfl⟩ ⟨(Nat.le_of_ble_eq_true rfl), (Nat.le_of_ble_eq_true rfl)⟩ ?_
  refine V_iretz hC rfl kX6_isLight_13 ?_ ?_
  · exact b01_z _
  · exact ⟨by with_reducible rfl, by with_reducible rfl⟩
def mtX6_isBoat : Mt := (yX6_isBoat, cX6_isBoat, 2, (some .boolean), 1, 22, 0, 0)
theorem kX6_isBoat_0 : Dk mtX6_isBoat 0 (.iload_n 1) 1 1 := ⟨by decide +kernel, rfl⟩
theorem kX6_isBoat_1 : Dk mtX6_isBoat 1 (.iconst 0) 1 2 := ⟨by decide +kernel, rfl⟩
theorem kX6_isBoat_2 : Dk mtX6_isBoat 2 (.aload_n 0) 1 3 := ⟨by decide +kernel, rfl⟩
theorem kX6_isBoat_3 : Dk mtX6_isBoat 3 (.getfield 7) 3 6 := ⟨by decide +kernel, rfl⟩
theorem kX6_isBoat_6 : Dk mtX6_isBoat 6 (.iconst 5) 1 7 := ⟨by decide +kernel, rfl⟩
theorem kX6_isBoat_7 : Dk mtX6_isBoat 7 (.iaload) 1 8 := ⟨by decide +kernel, rfl⟩
theorem kX6_isBoat_8 : Dk mtX6_isBoat 8 (.iconst 1) 1 9 := ⟨by decide +kernel, rfl⟩
theorem kX6_isBoat_9 : Dk mtX6_isBoat 9 (.isub) 1 10 := ⟨by decide +kernel, rfl⟩
theorem kX6_isBoat_10 : Dk mtX6_isBoat 10 (.invokestatic 39) 3 13 := ⟨by decide +kernel, rfl⟩
theorem kX6_isBoat_13 : Dk mtX6_isBoat 13 (.ireturn) 1 14 := ⟨by decide +kernel, rfl⟩
set_option maxHeartbeats 4000000 in
set_option maxRecDepth 100000 in
theorem ct_isBoat {l : Launch} {w : Wd} {sg : Sg} (hWr : Wr w) {mo : Nat} (a : Int32) : M l mtX6_isBoat w [vR (some (6, 0, mo)), vI a] sg (fI (b01 (inn a 0 ((sg (mo + 1)) 5 - 1))) sg) := by
  refine M_of [some (vR (some (6, 0, mo))), some (vI a)] rfl (Nat.le_of_ble_eq_true rfl) (by decide +kernel) ?_
  intro p_ e_ s_ m_ args_ below_ meth_ c_ hC hO
  refine V_iload_n hC kX6_isBoat_0 rfl ?_
  refine V_iconst hC (0) kX6_isBoat_1 (by decide) ?_
  refine V_aload_n hC kX6_isBoat_2 rfl ?_
  refine V_getR hC hWr 6 1 lfX6_7 kX6_isBoat_3 (Nat.le_of_ble_eq_true rfl) (Nat.le_of_ble_eq_true rfl) rfl ?_
  refine V_iconst hC (5) kX6_isBoat_6 (by decide) ?_
  refine V_iald hC 5 rfl kX6_isBoat_7 (vp_lit rfl) ?_
  refine V_iconst hC (1) kX6_isBoat_8 (by decide) ?_
  refine V_isub hC kX6_isBoat_9 ?_
  refine V_cS_fI hC (ct_in hWr _ _ _) mkX6_in lmX6_39 kX6_isBoat_10 rfl rfl (Nat.le_of_ble_eq_true rfl) ⟨(Nat.le_of_ble_eq_true rfl), (Nat.le_of_ble_eq_true rfl)⟩ ⟨rfl, rfl⟩ ⟨(Nat.le_of_ble_eq_true rfl), (Nat.le_of_ble_eq_true rfl)⟩ ?_
  refine V_iretz hC rfl kX6_isBoat_13 ?_ ?_
  · exact b01_z _
  · exact ⟨by with_reducible rfl, by with_reducible rfl⟩
def mtX6_isPlace : Mt := (yX6_isPlace, cX6_isPlace, 1, (some .boolean), 1, 22, 0, 0)
theorem kX6_isPlace_0 : Dk mtX6_isPlace 0 (.iload_n 0) 1 1 := ⟨by decide +kernel, rfl⟩
theorem kX6_isPlace_1 : Dk mtX6_isPlace 1 (.iconst 0) 1 2 := ⟨by decide +kernel, rfl⟩
theorem kX6_isPlace_2 : Dk mtX6_isPlace 2 (.sipush 199) 3 5 := ⟨by decide +kernel, rfl⟩
theorem kX6_isPlace_5 : Dk mtX6_isPlace 5 (.invokestatic 39) 3 8 := ⟨by decide +kernel, rfl⟩
theorem kX6_isPlace_8 : Dk mtX6_isPlace 8 (.ireturn) 1 9 := ⟨by decide +kernel, rfl⟩
set_option maxHeartbeats 4000000 in
set_option maxRecDepth 100000 in
theorem ct_isPlace {l : Launch} {w : Wd} {sg : Sg} (hWr : Wr w) (a : Int32) : M l mtX6_isPlace w [vI a] sg (fI (b01 (inn a 0 199)) sg) := by
  refine M_of [some (vI a)] rfl (Nat.le_of_ble_eq_true rfl) (by decide +kernel) ?_
  intro p_ e_ s_ m_ args_ below_ meth_ c_ hC hO
  refine V_iload_n hC kX6_isPlace_0 rfl ?_
  refine V_iconst hC (0) kX6_isPlace_1 (by decide) ?_
  refine V_sipush hC (199) kX6_isPlace_2 (by decide) ?_
  refine V_cS_fI hC (ct_in hWr _ _ _) mkX6_in lmX6_39 kX6_isPlace_5 rfl rfl (Nat.le_of_ble_eq_true rfl) ⟨(Nat.le_of_ble_eq_true rfl), (Nat.le_of_ble_eq_true rfl)⟩ ⟨rfl, rfl⟩ ⟨(Nat.le_of_ble_eq_true rfl), (Nat.le_of_ble_eq_true rfl)⟩ ?_
  refine V_iretz hC rfl kX6_isPlace_8 ?_ ?_
  · exact b01_z _
  · exact ⟨by with_reducible rfl, by with_reducible rfl⟩
def mtX6_bright : Mt := (yX6_bright, cX6_bright, 7, (some .int), 1, 22, 0, 0)
theorem kX6_bright_0 : Dk mtX6_bright 0 (.iload_n 2) 1 1 := ⟨by decide +kernel, rfl⟩
theorem kX6_bright_1 : Dk mtX6_bright 1 (.aload_n 0) 1 2 := ⟨by decide +kernel, rfl⟩
theorem kX6_bright_2 : Dk mtX6_bright 2 (.iload_n 1) 1 3 := ⟨by decide +kernel, rfl⟩
theorem kX6_bright_3 : Dk mtX6_bright 3 (.iconst 0) 1 4 := ⟨by decide +kernel, rfl⟩
theorem kX6_bright_4 : Dk mtX6_bright 4 (.invokevirtual 46) 3 7 := ⟨by decide +kernel, rfl⟩
theorem kX6_bright_7 : Dk mtX6_bright 7 (.isub) 1 8 := ⟨by decide +kernel, rfl⟩
theorem kX6_bright_8 : Dk mtX6_bright 8 (.istore_n 3) 1 9 := ⟨by decide +kernel, rfl⟩
theorem kX6_bright_9 : Dk mtX6_bright 9 (.aload_n 0) 1 10 := ⟨by decide +kernel, rfl⟩
theorem kX6_bright_10 : Dk mtX6_bright 10 (.iload_n 1) 1 11 := ⟨by decide +kernel, rfl⟩
theorem kX6_bright_11 : Dk mtX6_bright 11 (.iconst 1) 1 12 := ⟨by decide +kernel, rfl⟩
theorem kX6_bright_12 : Dk mtX6_bright 12 (.invokevirtual 46) 3 15 := ⟨by decide +kernel, rfl⟩
theorem kX6_bright_15 : Dk mtX6_bright 15 (.bipush 100) 2 17 := ⟨by decide +kernel, rfl⟩
theorem kX6_bright_17 : Dk mtX6_bright 17 (.imul) 1 18 := ⟨by decide +kernel, rfl⟩
theorem kX6_bright_18 : Dk mtX6_bright 18 (.bipush 10) 2 20 := ⟨by decide +kernel, rfl⟩
theorem kX6_bright_20 : Dk mtX6_bright 20 (.iload_n 3) 1 21 := ⟨by decide +kernel, rfl⟩
theorem kX6_bright_21 : Dk mtX6_bright 21 (.ifCond .ge 8) 3 24 := ⟨by decide +kernel, rfl⟩
theorem kX6_bright_24 : Dk mtX6_bright 24 (.iload_n 3) 1 25 := ⟨by decide +kernel, rfl⟩
theorem kX6_bright_25 : Dk mtX6_bright 25 (.ineg) 1 26 := ⟨by decide +kernel, rfl⟩
theorem kX6_bright_26 : Dk mtX6_bright 26 (.goto 4) 3 29 := ⟨by decide +kernel, rfl⟩
theorem kX6_bright_29 : Dk mtX6_bright 29 (.iload_n 3) 1 30 := ⟨by decide +kernel, rfl⟩
theorem kX6_bright_30 : Dk mtX6_bright 30 (.iadd) 1 31 := ⟨by decide +kernel, rfl⟩
theorem kX6_bright_31 : Dk mtX6_bright 31 (.idiv) 1 32 := ⟨by decide +kernel, rfl⟩
theorem kX6_bright_32 : Dk mtX6_bright 32 (.istore 4) 2 34 := ⟨by decide +kernel, rfl⟩
theorem kX6_bright_34 : Dk mtX6_bright 34 (.aload_n 0) 1 35 := ⟨by decide +kernel, rfl⟩
theorem kX6_bright_35 : Dk mtX6_bright 35 (.iload_n 1) 1 36 := ⟨by decide +kernel, rfl⟩
theorem kX6_bright_36 : Dk mtX6_bright 36 (.iconst 2) 1 37 := ⟨by decide +kernel, rfl⟩
theorem kX6_bright_37 : Dk mtX6_bright 37 (.invokevirtual 46) 3 40 := ⟨by decide +kernel, rfl⟩
theorem kX6_bright_40 : Dk mtX6_bright 40 (.iconst 1) 1 41 := ⟨by decide +kernel, rfl⟩
theorem kX6_bright_41 : Dk mtX6_bright 41 (.if_icmp .ne 33) 3 44 := ⟨by decide +kernel, rfl⟩
theorem kX6_bright_44 : Dk mtX6_bright 44 (.aload_n 0) 1 45 := ⟨by decide +kernel, rfl⟩
theorem kX6_bright_45 : Dk mtX6_bright 45 (.getfield 7) 3 48 := ⟨by decide +kernel, rfl⟩
theorem kX6_bright_48 : Dk mtX6_bright 48 (.bipush 6) 2 50 := ⟨by decide +kernel, rfl⟩
theorem kX6_bright_50 : Dk mtX6_bright 50 (.iaload) 1 51 := ⟨by decide +kernel, rfl⟩
theorem kX6_bright_51 : Dk mtX6_bright 51 (.aload_n 0) 1 52 := ⟨by decide +kernel, rfl⟩
theorem kX6_bright_52 : Dk mtX6_bright 52 (.iload_n 1) 1 53 := ⟨by decide +kernel, rfl⟩
theorem kX6_bright_53 : Dk mtX6_bright 53 (.iconst 3) 1 54 := ⟨by decide +kernel, rfl⟩
theorem kX6_bright_54 : Dk mtX6_bright 54 (.invokevirtual 46) 3 57 := ⟨by decide +kernel, rfl⟩
theorem kX6_bright_57 : Dk mtX6_bright 57 (.idiv) 1 58 := ⟨by decide +kernel, rfl⟩
theorem kX6_bright_58 : Dk mtX6_bright 58 (.iconst 2) 1 59 := ⟨by decide +kernel, rfl⟩
theorem kX6_bright_59 : Dk mtX6_bright 59 (.irem) 1 60 := ⟨by decide +kernel, rfl⟩
theorem kX6_bright_60 : Dk mtX6_bright 60 (.iconst 1) 1 61 := ⟨by decide +kernel, rfl⟩
theorem kX6_bright_61 : Dk mtX6_bright 61 (.if_icmp .ne 10) 3 64 := ⟨by decide +kernel, rfl⟩
theorem kX6_bright_64 : Dk mtX6_bright 64 (.iload 4) 2 66 := ⟨by decide +kernel, rfl⟩
theorem kX6_bright_66 : Dk mtX6_bright 66 (.iconst 2) 1 67 := ⟨by decide +kernel, rfl⟩
theorem kX6_bright_67 : Dk mtX6_bright 67 (.idiv) 1 68 := ⟨by decide +kernel, rfl⟩
theorem kX6_bright_68 : Dk mtX6_bright 68 (.goto 5) 3 71 := ⟨by decide +kernel, rfl⟩
theorem kX6_bright_71 : Dk mtX6_bright 71 (.iload 4) 2 73 := ⟨by decide +kernel, rfl⟩
theorem kX6_bright_73 : Dk mtX6_bright 73 (.ireturn) 1 74 := ⟨by decide +kernel, rfl⟩
theorem kX6_bright_74 : Dk mtX6_bright 74 (.aload_n 0) 1 75 := ⟨by decide +kernel, rfl⟩
theorem kX6_bright_75 : Dk mtX6_bright 75 (.iload_n 1) 1 76 := ⟨by decide +kernel, rfl⟩
theorem kX6_bright_76 : Dk mtX6_bright 76 (.iconst 3) 1 77 := ⟨by decide +kernel, rfl⟩
theorem kX6_bright_77 : Dk mtX6_bright 77 (.invokevirtual 46) 3 80 := ⟨by decide +kernel, rfl⟩
theorem kX6_bright_80 : Dk mtX6_bright 80 (.iconst 2) 1 81 := ⟨by decide +kernel, rfl⟩
theorem kX6_bright_81 : Dk mtX6_bright 81 (.irem) 1 82 := ⟨by decide +kernel, rfl⟩
theorem kX6_bright_82 : Dk mtX6_bright 82 (.iconst 1) 1 83 := ⟨by decide +kernel, rfl⟩
theorem kX6_bright_83 : Dk mtX6_bright 83 (.if_icmp .ne 7) 3 86 := ⟨by decide +kernel, rfl⟩
theorem kX6_bright_86 : Dk mtX6_bright 86 (.iconst 1) 1 87 := ⟨by decide +kernel, rfl⟩
theorem kX6_bright_87 : Dk mtX6_bright 87 (.goto 4) 3 90 := ⟨by decide +kernel, rfl⟩
theorem kX6_bright_90 : Dk mtX6_bright 90 (.iconst 0) 1 91 := ⟨by decide +kernel, rfl⟩
theorem kX6_bright_91 : Dk mtX6_bright 91 (.istore 5) 2 93 := ⟨by decide +kernel, rfl⟩
theorem kX6_bright_93 : Dk mtX6_bright 93 (.aload_n 0) 1 94 := ⟨by decide +kernel, rfl⟩
theorem kX6_bright_94 : Dk mtX6_bright 94 (.iload_n 1) 1 95 := ⟨by decide +kernel, rfl⟩
theorem kX6_bright_95 : Dk mtX6_bright 95 (.iconst 2) 1 96 := ⟨by decide +kernel, rfl⟩
theorem kX6_bright_96 : Dk mtX6_bright 96 (.invokevirtual 46) 3 99 := ⟨by decide +kernel, rfl⟩
theorem kX6_bright_99 : Dk mtX6_bright 99 (.iconst 2) 1 100 := ⟨by decide +kernel, rfl⟩
theorem kX6_bright_100 : Dk mtX6_bright 100 (.if_icmp .ne 23) 3 103 := ⟨by decide +kernel, rfl⟩
theorem kX6_bright_103 : Dk mtX6_bright 103 (.iload 5) 2 105 := ⟨by decide +kernel, rfl⟩
theorem kX6_bright_105 : Dk mtX6_bright 105 (.ifCond .eq 10) 3 108 := ⟨by decide +kernel, rfl⟩
theorem kX6_bright_108 : Dk mtX6_bright 108 (.iload_n 3) 1 109 := ⟨by decide +kernel, rfl⟩
theorem kX6_bright_109 : Dk mtX6_bright 109 (.ifCond .ge 14) 3 112 := ⟨by decide +kernel, rfl⟩
theorem kX6_bright_112 : Dk mtX6_bright 112 (.goto 7) 3 115 := ⟨by decide +kernel, rfl⟩
theorem kX6_bright_115 : Dk mtX6_bright 115 (.iload_n 3) 1 116 := ⟨by decide +kernel, rfl⟩
theorem kX6_bright_116 : Dk mtX6_bright 116 (.ifCond .le 7) 3 119 := ⟨by decide +kernel, rfl⟩
theorem kX6_bright_119 : Dk mtX6_bright 119 (.iconst 1) 1 120 := ⟨by decide +kernel, rfl⟩
theorem kX6_bright_120 : Dk mtX6_bright 120 (.goto 4) 3 123 := ⟨by decide +kernel, rfl⟩
theorem kX6_bright_123 : Dk mtX6_bright 123 (.iconst 0) 1 124 := ⟨by decide +kernel, rfl⟩
theorem kX6_bright_124 : Dk mtX6_bright 124 (.istore 6) 2 126 := ⟨by decide +kernel, rfl⟩
theorem kX6_bright_126 : Dk mtX6_bright 126 (.iload 6) 2 128 := ⟨by decide +kernel, rfl⟩
theorem kX6_bright_128 : Dk mtX6_bright 128 (.ifCond .eq 7) 3 131 := ⟨by decide +kernel, rfl⟩
theorem kX6_bright_131 : Dk mtX6_bright 131 (.iconst 0) 1 132 := ⟨by decide +kernel, rfl⟩
theorem kX6_bright_132 : Dk mtX6_bright 132 (.goto 5) 3 135 := ⟨by decide +kernel, rfl⟩
theorem kX6_bright_135 : Dk mtX6_bright 135 (.iload 4) 2 137 := ⟨by decide +kernel, rfl⟩
theorem kX6_bright_137 : Dk mtX6_bright 137 (.ireturn) 1 138 := ⟨by decide +kernel, rfl⟩
theorem lmX6_46 : LkM RX6 46 mtX6_of := Or.inl (by decide +kernel)
theorem mkX6_of : MkV mtX6_of 2 := ⟨List.mem_of_getElem? (i := 1197) (by decide +kernel), by decide +kernel, by decide +kernel, by decide +kernel, ⟨by decide +kernel, by decide +kernel, by decide +kernel⟩⟩
set_option maxHeartbeats 4000000 in
set_option maxRecDepth 100000 in
theorem ct_bright {l : Launch} {w : Wd} {sg : Sg} (hWr : Wr w) {mo : Nat} (a q : Int32) (ha : vp_in a 6) (hn : gL (sg (mo + 1)) a 2 = 1 → ¬ gL (sg (mo + 1)) a 3 = 0) : M l mtX6_bright w [vR (some (6, 0, mo)), vI a, vI q] sg (fI (F_bright (sg (mo + 1)) a q) sg) := by
  refine M_of [some (vR (some (6, 0, mo))), some (vI a), some (vI q), none, none, none, none] rfl (Nat.le_of_ble_eq_true rfl) (by decide +kernel) ?_
  intro p_ e_ s_ m_ args_ below_ meth_ c_ hC hO
  refine V_iload_n hC kX6_bright_0 rfl ?_
  refine V_aload_n hC kX6_bright_1 rfl ?_
  refine V_iload_n hC kX6_bright_2 rfl ?_
  refine V_iconst hC (0) kX6_bright_3 (by decide) ?_
  refine V_cV_fI hC (ct_of hWr a 0 ha (vp_lit rfl)) mkX6_of lmX6_46 kX6_bright_4 (Nat.le_of_ble_eq_true rfl) rfl rfl rfl (Nat.le_of_ble_eq_true rfl) ⟨(Nat.le_of_ble_eq_true rfl), (Nat.le_of_ble_eq_true rfl)⟩ ⟨rfl, rfl⟩ ⟨(Nat.le_of_ble_eq_true rfl), (Nat.le_of_ble_eq_true rfl)⟩ ?_
  refine V_isub hC kX6_bright_7 ?_
  refine V_nameI (fun d e_d => ?_)
  refine V_istore_n hC [some _, some _, some _, some _, none, none, none] kX6_bright_8 rfl (Nat.le_of_ble_eq_true rfl) ?_
  refine V_aload_n hC kX6_bright_9 rfl ?_
  refine V_iload_n hC kX6_bright_10 rfl ?_
  refine V_iconst hC (1) kX6_bright_11 (by decide) ?_
  refine V_cV_fI hC (ct_of hWr a 1 ha (vp_lit rfl)) mkX6_of lmX6_46 kX6_bright_12 (Nat.le_of_ble_eq_true rfl) rfl rfl rfl (Nat.le_of_ble_eq_true rfl) ⟨(Nat.le_of_ble_eq_true rfl), (Nat.le_of_ble_eq_true rfl)⟩ ⟨rfl, rfl⟩ ⟨(Nat.le_of_ble_eq_true rfl), (Nat.le_of_ble_eq_true rfl)⟩ ?_
  refine V_bipush hC (100) kX6_bright_15 (by decide) ?_
  refine V_imul hC kX6_bright_17 ?_
  refine V_bipush hC (10) kX6_bright_18 (by decide) ?_
  refine V_join 30 (if d < 0 then -d else d) ?_ (fun j30 => ?_)
  · refine V_iadd hC kX6_bright_30 ?_
    refine V_idiv hC kX6_bright_31 (ne_span d) ?_
    refine V_nameI (fun its e_its => ?_)
    refine V_istore hC [some _, some _, some _, some _, some _, none, none] kX6_bright_32 rfl (Nat.le_of_ble_eq_true rfl) ?_
    refine V_aload_n hC kX6_bright_34 rfl ?_
    refine V_iload_n hC kX6_bright_35 rfl ?_
    refine V_iconst hC (2) kX6_bright_36 (by decide) ?_
    refine V_cV_fI hC (ct_of hWr a 2 ha (vp_lit rfl)) mkX6_of lmX6_46 kX6_bright_37 (Nat.le_of_ble_eq_true rfl) rfl rfl rfl (Nat.le_of_ble_eq_true rfl) ⟨(Nat.le_of_ble_eq_true rfl), (Nat.le_of_ble_eq_true rfl)⟩ ⟨rfl, rfl⟩ ⟨(Nat.le_of_ble_eq_true rfl), (Nat.le_of_ble_eq_true rfl)⟩ ?_
    refine V_iconst hC (1) kX6_bright_40 (by decide) ?_
    refine V_icmp_ne hC 74 kX6_bright_41 (by decide) (fun h41 => ?_) (fun h41 => ?_)
    · refine V_join 91 (b01 (rm (gL (sg (mo + 1)) a 3) 2 = 1)) ?_ (fun j91 => ?_)
      · refine V_nameI (fun odd e_odd => ?_)
        refine V_istore hC [some _, some _, some _, some _, some _, some _, none] kX6_bright_91 rfl (Nat.le_of_ble_eq_true rfl) ?_
        refine V_join 124 (b01 (gL (sg (mo + 1)) a 2 = 2 ∧ (if rm (gL (sg (mo + 1)) a 3) 2 = 1 then d < 0 else 0 < d))) ?_ (fun j124 => ?_)
        · refine V_nameI (fun bh e_bh => ?_)
          refine V_istore hC [some _, some _, some _, some _, some _, some _, some _] kX6_bright_124 rfl (Nat.le_of_ble_eq_true rfl) ?_
          refine V_iload hC kX6_bright_126 rfl ?_
          refine V_if_eq hC 135 kX6_bright_128 (by decide) (fun h128 => ?_) (fun h128 => ?_)
          · refine V_iload hC kX6_bright_135 rfl ?_
            refine V_ireti hC rfl kX6_bright_137 ?_
            refine ⟨cI ?_, by with_reducible rfl⟩
            subst e_its e_d
            unfold F_bright
            first
              | rw [if_pos h41, if_neg h61]
              | rw [if_pos h41, if_pos h61]
              | rw [if_neg h41, if_neg (b0_of e_bh h128)]
              | rw [if_neg h41, if_pos (b1_of e_bh h128)]
          · refine V_iconst hC (0) kX6_bright_131 (by decide) ?_
            refine V_goto hC 137 kX6_bright_132 (by decide) ?_
            refine V_ireti hC rfl kX6_bright_137 ?_
            refine ⟨cI ?_, by with_reducible rfl⟩
            subst e_its e_d
            unfold F_bright
            first
              | rw [if_pos h41, if_neg h61]
              | rw [if_pos h41, if_pos h61]
              | rw [if_neg h41, if_neg (b0_of e_bh h128)]
              | rw [if_neg h41, if_pos (b1_of e_bh h128)]
        · refine V_aload_n hC kX6_bright_93 rfl ?_
          refine V_iload_n hC kX6_bright_94 rfl ?_
          refine V_iconst hC (2) kX6_bright_95 (by decide) ?_
          refine V_cV_fI hC (ct_of hWr a 2 ha (vp_lit rfl)) mkX6_of lmX6_46 kX6_bright_96 (Nat.le_of_ble_eq_true rfl) rfl rfl rfl (Nat.le_of_ble_eq_true rfl) ⟨(Nat.le_of_ble_eq_true rfl), (Nat.le_of_ble_eq_true rfl)⟩ ⟨rfl, rfl⟩ ⟨(Nat.le_of_ble_eq_true rfl), (Nat.le_of_ble_eq_true rfl)⟩ ?_
          refine V_iconst hC (2) kX6_bright_99 (by decide) ?_
          refine V_icmp_ne hC 123 kX6_bright_100 (by decide) (fun h100 => ?_) (fun h100 => ?_)
          · refine V_iconst hC (0) kX6_bright_123 (by decide) ?_
            exact j124 _ ((b01_f (fun q => h100 q.1)).symm)
          · refine V_iload hC kX6_bright_103 rfl ?_
            refine V_if_eq hC 115 kX6_bright_105 (by decide) (fun h105 => ?_) (fun h105 => ?_)
            · refine V_iload_n hC kX6_bright_115 rfl ?_
              refine V_if_le hC 123 kX6_bright_116 (by decide) (fun h116 => ?_) (fun h116 => ?_)
              · refine V_iconst hC (0) kX6_bright_123 (by decide) ?_
                exact j124 _ ((b01_f (fun q => by have q := q.2; rw [if_neg (b0_of e_odd h105)] at q; exact absurd q (Int32.not_lt.mpr h116))).symm)
              · refine V_iconst hC (1) kX6_bright_119 (by decide) ?_
                refine V_goto hC 124 kX6_bright_120 (by decide) ?_
                exact j124 _ ((b01_t ⟨h100, by rw [if_neg (b0_of e_odd h105)]; exact Int32.not_le.mp h116⟩).symm)
            · refine V_iload_n hC kX6_bright_108 rfl ?_
              refine V_if_ge hC 123 kX6_bright_109 (by decide) (fun h109 => ?_) (fun h109 => ?_)
              · refine V_iconst hC (0) kX6_bright_123 (by decide) ?_
                exact j124 _ ((b01_f (fun q => by have q := q.2; rw [if_pos (b1_of e_odd h105)] at q; exact absurd q (Int32.not_lt.mpr h109))).symm)
              · refine V_goto hC 119 kX6_bright_112 (by decide) ?_
                refine V_iconst hC (1) kX6_bright_119 (by decide) ?_
                refine V_goto hC 124 kX6_bright_120 (by decide) ?_
                exact j124 _ ((b01_t ⟨h100, by rw [if_pos (b1_of e_odd h105)]; exact Int32.not_le.mp h109⟩).symm)
      · refine V_aload_n hC kX6_bright_74 rfl ?_
        refine V_iload_n hC kX6_bright_75 rfl ?_
        refine V_iconst hC (3) kX6_bright_76 (by decide) ?_
        refine V_cV_fI hC (ct_of hWr a 3 ha (vp_lit rfl)) mkX6_of lmX6_46 kX6_bright_77 (Nat.le_of_ble_eq_true rfl) rfl rfl rfl (Nat.le_of_ble_eq_true rfl) ⟨(Nat.le_of_ble_eq_true rfl), (Nat.le_of_ble_eq_true rfl)⟩ ⟨rfl, rfl⟩ ⟨(Nat.le_of_ble_eq_true rfl), (Nat.le_of_ble_eq_true rfl)⟩ ?_
        refine V_iconst hC (2) kX6_bright_80 (by decide) ?_
        refine V_irem hC kX6_bright_81 (by decide) ?_
        refine V_iconst hC (1) kX6_bright_82 (by decide) ?_
        refine V_icmp_ne hC 90 kX6_bright_83 (by decide) (fun h83 => ?_) (fun h83 => ?_)
        · refine V_iconst hC (0) kX6_bright_90 (by decide) ?_
          exact j91 _ ((b01_f h83).symm)
        · refine V_iconst hC (1) kX6_bright_86 (by decide) ?_
          refine V_goto hC 91 kX6_bright_87 (by decide) ?_
          exact j91 _ ((b01_t h83).symm)
    · refine V_aload_n hC kX6_bright_44 rfl ?_
      refine V_getR hC hWr 6 1 lfX6_7 kX6_bright_45 (Nat.le_of_ble_eq_true rfl) (Nat.le_of_ble_eq_true rfl) rfl ?_
      refine V_bipush hC (6) kX6_bright_48 (by decide) ?_
      refine V_iald hC 6 rfl kX6_bright_50 (vp_lit rfl) ?_
      refine V_aload_n hC kX6_bright_51 rfl ?_
      refine V_iload_n hC kX6_bright_52 rfl ?_
      refine V_iconst hC (3) kX6_bright_53 (by decide) ?_
      refine V_cV_fI hC (ct_of hWr a 3 ha (vp_lit rfl)) mkX6_of lmX6_46 kX6_bright_54 (Nat.le_of_ble_eq_true rfl) rfl rfl rfl (Nat.le_of_ble_eq_true rfl) ⟨(Nat.le_of_ble_eq_true rfl), (Nat.le_of_ble_eq_true rfl)⟩ ⟨rfl, rfl⟩ ⟨(Nat.le_of_ble_eq_true rfl), (Nat.le_of_ble_eq_true rfl)⟩ ?_
      refine V_idiv hC kX6_bright_57 (hn h41) ?_
      refine V_iconst hC (2) kX6_bright_58 (by decide) ?_
      refine V_irem hC kX6_bright_59 (by decide) ?_
      refine V_iconst hC (1) kX6_bright_60 (by decide) ?_
      refine V_icmp_ne hC 71 kX6_bright_61 (by decide) (fun h61 => ?_) (fun h61 => ?_)
      · refine V_iload hC kX6_bright_71 rfl ?_
        refine V_ireti hC rfl kX6_bright_73 ?_
        refine ⟨cI ?_, by with_reducible rfl⟩
        subst e_its e_d
        unfold F_bright
        first
          | rw [if_pos h41, if_neg h61]
          | rw [if_pos h41, if_pos h61]
          | rw [if_neg h41, if_neg (b0_of e_bh h128)]
          | rw [if_neg h41, if_pos (b1_of e_bh h128)]
      · refine V_iload hC kX6_bright_64 rfl ?_
        refine V_iconst hC (2) kX6_bright_66 (by decide) ?_
        refine V_idiv hC kX6_bright_67 (by decide) ?_
        refine V_goto hC 73 kX6_bright_68 (by decide) ?_
        refine V_ireti hC rfl kX6_bright_73 ?_
        refine ⟨cI ?_, by with_reducible rfl⟩
        subst e_its e_d
        unfold F_bright
        first
          | rw [if_pos h41, if_neg h61]
          | rw [if_pos h41, if_pos h61]
          | rw [if_neg h41, if_neg (b0_of e_bh h128)]
          | rw [if_neg h41, if_pos (b1_of e_bh h128)]
  · refine V_iload_n hC kX6_bright_20 rfl ?_
    refine V_if_ge hC 29 kX6_bright_21 (by decide) (fun h21 => ?_) (fun h21 => ?_)
    · refine V_iload_n hC kX6_bright_29 rfl ?_
      exact j30 _ ((if_neg (Int32.not_lt.mpr h21)).symm)
    · refine V_iload_n hC kX6_bright_24 rfl ?_
      refine V_ineg hC kX6_bright_25 ?_
      refine V_goto hC 30 kX6_bright_26 (by decide) ?_
      exact j30 _ ((if_pos (Int32.not_le.mp h21)).symm)
def mtX6_worth : Mt := (yX6_worth, cX6_worth, 3, (some .int), 2, 48, 0, 0)
theorem kX6_worth_0 : Dk mtX6_worth 0 (.aload_n 0) 1 1 := ⟨by decide +kernel, rfl⟩
theorem kX6_worth_1 : Dk mtX6_worth 1 (.iload_n 1) 1 2 := ⟨by decide +kernel, rfl⟩
theorem kX6_worth_2 : Dk mtX6_worth 2 (.iload_n 2) 1 3 := ⟨by decide +kernel, rfl⟩
theorem kX6_worth_3 : Dk mtX6_worth 3 (.invokevirtual 50) 3 6 := ⟨by decide +kernel, rfl⟩
theorem kX6_worth_6 : Dk mtX6_worth 6 (.aload_n 0) 1 7 := ⟨by decide +kernel, rfl⟩
theorem kX6_worth_7 : Dk mtX6_worth 7 (.iload_n 1) 1 8 := ⟨by decide +kernel, rfl⟩
theorem kX6_worth_8 : Dk mtX6_worth 8 (.bipush 6) 2 10 := ⟨by decide +kernel, rfl⟩
theorem kX6_worth_10 : Dk mtX6_worth 10 (.invokevirtual 46) 3 13 := ⟨by decide +kernel, rfl⟩
theorem kX6_worth_13 : Dk mtX6_worth 13 (.iadd) 1 14 := ⟨by decide +kernel, rfl⟩
theorem kX6_worth_14 : Dk mtX6_worth 14 (.ireturn) 1 15 := ⟨by decide +kernel, rfl⟩
theorem lmX6_50 : LkM RX6 50 mtX6_bright := Or.inl (by decide +kernel)
theorem mkX6_bright : MkV mtX6_bright 2 := ⟨List.mem_of_getElem? (i := 1193) (by decide +kernel), by decide +kernel, by decide +kernel, by decide +kernel, ⟨by decide +kernel, by decide +kernel, by decide +kernel⟩⟩
set_option maxHeartbeats 4000000 in
set_option maxRecDepth 100000 in
theorem ct_worth {l : Launch} {w : Wd} {sg : Sg} (hWr : Wr w) {mo : Nat} (a q : Int32) (ha : vp_in a 6) (hn : gL (sg (mo + 1)) a 2 = 1 → ¬ gL (sg (mo + 1)) a 3 = 0) : M l mtX6_worth w [vR (some (6, 0, mo)), vI a, vI q] sg (fI (F_worth (sg (mo + 1)) a q) sg) := by
  refine M_of [some (vR (some (6, 0, mo))), some (vI a), some (vI q)] rfl (Nat.le_of_ble_eq_true rfl) (by decide +kernel) ?_
  intro p_ e_ s_ m_ args_ below_ meth_ c_ hC hO
  refine V_aload_n hC kX6_worth_0 rfl ?_
  refine V_iload_n hC kX6_worth_1 rfl ?_
  refine V_iload_n hC kX6_worth_2 rfl ?_
  refine V_cV_fI hC (ct_bright hWr _ _ ha hn) mkX6_bright lmX6_50 kX6_worth_3 (Nat.le_of_ble_eq_true rfl) rfl rfl rfl (Nat.le_of_ble_eq_true rfl) ⟨(Nat.le_of_ble_eq_true rfl), (Nat.le_of_ble_eq_true rfl)⟩ ⟨rfl, rfl⟩ ⟨(Nat.le_of_ble_eq_true rfl), (Nat.le_of_ble_eq_true rfl)⟩ ?_
  refine V_aload_n hC kX6_worth_6 rfl ?_
  refine V_iload_n hC kX6_worth_7 rfl ?_
  refine V_bipush hC (6) kX6_worth_8 (by decide) ?_
  refine V_cV_fI hC (ct_of hWr a 6 ha (vp_lit rfl)) mkX6_of lmX6_46 kX6_worth_10 (Nat.le_of_ble_eq_true rfl) rfl rfl rfl (Nat.le_of_ble_eq_true rfl) ⟨(Nat.le_of_ble_eq_true rfl), (Nat.le_of_ble_eq_true rfl)⟩ ⟨rfl, rfl⟩ ⟨(Nat.le_of_ble_eq_true rfl), (Nat.le_of_ble_eq_true rfl)⟩ ?_
  refine V_iadd hC kX6_worth_13 ?_
  refine V_ireti hC rfl kX6_worth_14 ?_
  refine ⟨cI ?_, by with_reducible rfl⟩
  unfold F_worth
  with_reducible rfl
def mtX6_serves : Mt := (yX6_serves, cX6_serves, 4, (some .int), 1, 22, 0, 0)
theorem kX6_serves_0 : Dk mtX6_serves 0 (.iconst 0) 1 1 := ⟨by decide +kernel, rfl⟩
theorem kX6_serves_1 : Dk mtX6_serves 1 (.istore_n 2) 1 2 := ⟨by decide +kernel, rfl⟩
theorem kX6_serves_2 : Dk mtX6_serves 2 (.iconst 0) 1 3 := ⟨by decide +kernel, rfl⟩
theorem kX6_serves_3 : Dk mtX6_serves 3 (.istore_n 3) 1 4 := ⟨by decide +kernel, rfl⟩
theorem kX6_serves_4 : Dk mtX6_serves 4 (.iload_n 3) 1 5 := ⟨by decide +kernel, rfl⟩
theorem kX6_serves_5 : Dk mtX6_serves 5 (.aload_n 0) 1 6 := ⟨by decide +kernel, rfl⟩
theorem kX6_serves_6 : Dk mtX6_serves 6 (.getfield 7) 3 9 := ⟨by decide +kernel, rfl⟩
theorem kX6_serves_9 : Dk mtX6_serves 9 (.iconst 5) 1 10 := ⟨by decide +kernel, rfl⟩
theorem kX6_serves_10 : Dk mtX6_serves 10 (.iaload) 1 11 := ⟨by decide +kernel, rfl⟩
theorem kX6_serves_11 : Dk mtX6_serves 11 (.if_icmp .ge 29) 3 14 := ⟨by decide +kernel, rfl⟩
theorem kX6_serves_14 : Dk mtX6_serves 14 (.iload_n 2) 1 15 := ⟨by decide +kernel, rfl⟩
theorem kX6_serves_15 : Dk mtX6_serves 15 (.aload_n 0) 1 16 := ⟨by decide +kernel, rfl⟩
theorem kX6_serves_16 : Dk mtX6_serves 16 (.iload_n 3) 1 17 := ⟨by decide +kernel, rfl⟩
theorem kX6_serves_17 : Dk mtX6_serves 17 (.iconst 2) 1 18 := ⟨by decide +kernel, rfl⟩
theorem kX6_serves_18 : Dk mtX6_serves 18 (.invokevirtual 53) 3 21 := ⟨by decide +kernel, rfl⟩
theorem kX6_serves_21 : Dk mtX6_serves 21 (.iload_n 1) 1 22 := ⟨by decide +kernel, rfl⟩
theorem kX6_serves_22 : Dk mtX6_serves 22 (.iconst 1) 1 23 := ⟨by decide +kernel, rfl⟩
theorem kX6_serves_23 : Dk mtX6_serves 23 (.iadd) 1 24 := ⟨by decide +kernel, rfl⟩
theorem kX6_serves_24 : Dk mtX6_serves 24 (.if_icmp .ne 7) 3 27 := ⟨by decide +kernel, rfl⟩
theorem kX6_serves_27 : Dk mtX6_serves 27 (.iconst 1) 1 28 := ⟨by decide +kernel, rfl⟩
theorem kX6_serves_28 : Dk mtX6_serves 28 (.goto 4) 3 31 := ⟨by decide +kernel, rfl⟩
theorem kX6_serves_31 : Dk mtX6_serves 31 (.iconst 0) 1 32 := ⟨by decide +kernel, rfl⟩
theorem kX6_serves_32 : Dk mtX6_serves 32 (.iadd) 1 33 := ⟨by decide +kernel, rfl⟩
theorem kX6_serves_33 : Dk mtX6_serves 33 (.istore_n 2) 1 34 := ⟨by decide +kernel, rfl⟩
theorem kX6_serves_34 : Dk mtX6_serves 34 (.iinc 3 1) 3 37 := ⟨by decide +kernel, rfl⟩
theorem kX6_serves_37 : Dk mtX6_serves 37 (.goto (-33)) 3 40 := ⟨by decide +kernel, rfl⟩
theorem kX6_serves_40 : Dk mtX6_serves 40 (.iload_n 2) 1 41 := ⟨by decide +kernel, rfl⟩
theorem kX6_serves_41 : Dk mtX6_serves 41 (.ireturn) 1 42 := ⟨by decide +kernel, rfl⟩
theorem lmX6_53 : LkM RX6 53 mtX6_ofBoat := Or.inl (by decide +kernel)
theorem mkX6_ofBoat : MkV mtX6_ofBoat 2 := ⟨List.mem_of_getElem? (i := 1159) (by decide +kernel), by decide +kernel, by decide +kernel, by decide +kernel, ⟨by decide +kernel, by decide +kernel, by decide +kernel⟩⟩
set_option maxHeartbeats 4000000 in
set_option maxRecDepth 100000 in
theorem ct_serves {l : Launch} {w : Wd} {sg : Sg} (hWr : Wr w) {mo : Nat} (a : Int32) (hc : 0 ≤ (sg (mo + 1) 5).toInt ∧ (sg (mo + 1) 5).toInt ≤ 8) : M l mtX6_serves w [vR (some (6, 0, mo)), vI a] sg (fI (F_serves (sg (mo + 1)) a) sg) := by
  refine M_of [some (vR (some (6, 0, mo))), some (vI a), none, none] rfl (Nat.le_of_ble_eq_true rfl) (by decide +kernel) ?_
  intro p_ e_ s_ m_ args_ below_ meth_ c_ hC hO
  refine V_iconst hC (0) kX6_serves_0 (by decide) ?_
  refine V_istore_n hC [some _, some _, some _, none] kX6_serves_1 rfl (Nat.le_of_ble_eq_true rfl) ?_
  refine V_iconst hC (0) kX6_serves_2 (by decide) ?_
  refine V_istore_n hC [some _, some _, some _, some _] kX6_serves_3 rfl (Nat.le_of_ble_eq_true rfl) ?_
  refine V_loop (tn ((sg (mo + 1)) 5)) (fun i => [some (vR (some (6, 0, mo))), some (vI a), some (vI (F_servesN (sg (mo + 1)) a i)), some (vI (nI i))]) (fun i => sg) rfl rfl ?_ (fun i hi ihi => ?_)
  · refine V_iload_n hC kX6_serves_4 rfl ?_
    refine V_aload_n hC kX6_serves_5 rfl ?_
    refine V_getR hC hWr 6 1 lfX6_7 kX6_serves_6 (Nat.le_of_ble_eq_true rfl) (Nat.le_of_ble_eq_true rfl) rfl ?_
    refine V_iconst hC (5) kX6_serves_9 (by decide) ?_
    refine V_iald hC 5 rfl kX6_serves_10 (vp_lit rfl) ?_
    refine V_icmp_ge hC 40 kX6_serves_11 (by decide) (fun h11 => ?_) (fun h11 => absurd h11 (not_not_intro (cnt_le hc.1)))
    refine V_iload_n hC kX6_serves_40 rfl ?_
    refine V_ireti hC rfl kX6_serves_41 ?_
    refine ⟨cI ?_, by with_reducible rfl⟩
    unfold F_serves
    with_reducible rfl
  · have hi8 : i < 8 := by have := (cnt_in (n := 8) hc.1 hc.2).1; omega
    refine V_iload_n hC kX6_serves_4 rfl ?_
    refine V_aload_n hC kX6_serves_5 rfl ?_
    refine V_getR hC hWr 6 1 lfX6_7 kX6_serves_6 (Nat.le_of_ble_eq_true rfl) (Nat.le_of_ble_eq_true rfl) rfl ?_
    refine V_iconst hC (5) kX6_serves_9 (by decide) ?_
    refine V_iald hC 5 rfl kX6_serves_10 (vp_lit rfl) ?_
    refine V_icmp_ge hC 40 kX6_serves_11 (by decide) (fun h11 => absurd h11 (cnt_lt hc.1 hi)) (fun h11 => ?_)
    refine V_iload_n hC kX6_serves_14 rfl ?_
    refine V_join 32 (b01 (gB (sg (mo + 1)) (nI i) 2 = a + 1)) ?_ (fun j32 => ?_)
    · refine V_iadd hC kX6_serves_32 ?_
      refine V_istore_n hC [some _, some _, some _, some _] kX6_serves_33 rfl (Nat.le_of_ble_eq_true rfl) ?_
      refine V_iinc hC (_ + 1) [some _, some _, some _, some _] kX6_serves_34 rfl rfl rfl (Nat.le_of_ble_eq_true rfl) ?_
      refine V_goto hC 4 kX6_serves_37 (by decide) ?_
      refine V_eq ?_ rfl ihi
      simp only [F_servesN, nI_succ]
    · refine V_aload_n hC kX6_serves_15 rfl ?_
      refine V_iload_n hC kX6_serves_16 rfl ?_
      refine V_iconst hC (2) kX6_serves_17 (by decide) ?_
      refine V_cV_fI hC (ct_ofBoat hWr (nI i) 2 (vp_in_nI hi8 (by decide)) (vp_lit rfl)) mkX6_ofBoat lmX6_53 kX6_serves_18 (Nat.le_of_ble_eq_true rfl) rfl rfl rfl (Nat.le_of_ble_eq_true rfl) ⟨(Nat.le_of_ble_eq_true rfl), (Nat.le_of_ble_eq_true rfl)⟩ ⟨rfl, rfl⟩ ⟨(Nat.le_of_ble_eq_true rfl), (Nat.le_of_ble_eq_true rfl)⟩ ?_
      refine V_iload_n hC kX6_serves_21 rfl ?_
      refine V_iconst hC (1) kX6_serves_22 (by decide) ?_
      refine V_iadd hC kX6_serves_23 ?_
      refine V_icmp_ne hC 31 kX6_serves_24 (by decide) (fun h24 => ?_) (fun h24 => ?_)
      · refine V_iconst hC (0) kX6_serves_31 (by decide) ?_
        exact j32 _ ((b01_f h24).symm)
      · refine V_iconst hC (1) kX6_serves_27 (by decide) ?_
        refine V_goto hC 32 kX6_serves_28 (by decide) ?_
        exact j32 _ ((b01_t h24).symm)
def mtX6_best : Mt := (yX6_best, cX6_best, 4, (some .int), 3, 70, 0, 0)
theorem kX6_best_0 : Dk mtX6_best 0 (.iconst (-1)) 1 1 := ⟨by decide +kernel, rfl⟩
theorem kX6_best_1 : Dk mtX6_best 1 (.istore_n 2) 1 2 := ⟨by decide +kernel, rfl⟩
theorem kX6_best_2 : Dk mtX6_best 2 (.iconst 0) 1 3 := ⟨by decide +kernel, rfl⟩
theorem kX6_best_3 : Dk mtX6_best 3 (.istore_n 3) 1 4 := ⟨by decide +kernel, rfl⟩
theorem kX6_best_4 : Dk mtX6_best 4 (.iload_n 3) 1 5 := ⟨by decide +kernel, rfl⟩
theorem kX6_best_5 : Dk mtX6_best 5 (.aload_n 0) 1 6 := ⟨by decide +kernel, rfl⟩
theorem kX6_best_6 : Dk mtX6_best 6 (.getfield 7) 3 9 := ⟨by decide +kernel, rfl⟩
theorem kX6_best_9 : Dk mtX6_best 9 (.iconst 4) 1 10 := ⟨by decide +kernel, rfl⟩
theorem kX6_best_10 : Dk mtX6_best 10 (.iaload) 1 11 := ⟨by decide +kernel, rfl⟩
theorem kX6_best_11 : Dk mtX6_best 11 (.if_icmp .ge 35) 3 14 := ⟨by decide +kernel, rfl⟩
theorem kX6_best_14 : Dk mtX6_best 14 (.iload_n 2) 1 15 := ⟨by decide +kernel, rfl⟩
theorem kX6_best_15 : Dk mtX6_best 15 (.iconst (-1)) 1 16 := ⟨by decide +kernel, rfl⟩
theorem kX6_best_16 : Dk mtX6_best 16 (.if_icmp .eq 18) 3 19 := ⟨by decide +kernel, rfl⟩
theorem kX6_best_19 : Dk mtX6_best 19 (.aload_n 0) 1 20 := ⟨by decide +kernel, rfl⟩
theorem kX6_best_20 : Dk mtX6_best 20 (.iload_n 3) 1 21 := ⟨by decide +kernel, rfl⟩
theorem kX6_best_21 : Dk mtX6_best 21 (.iload_n 1) 1 22 := ⟨by decide +kernel, rfl⟩
theorem kX6_best_22 : Dk mtX6_best 22 (.invokevirtual 56) 3 25 := ⟨by decide +kernel, rfl⟩
theorem kX6_best_25 : Dk mtX6_best 25 (.aload_n 0) 1 26 := ⟨by decide +kernel, rfl⟩
theorem kX6_best_26 : Dk mtX6_best 26 (.iload_n 2) 1 27 := ⟨by decide +kernel, rfl⟩
theorem kX6_best_27 : Dk mtX6_best 27 (.iload_n 1) 1 28 := ⟨by decide +kernel, rfl⟩
theorem kX6_best_28 : Dk mtX6_best 28 (.invokevirtual 56) 3 31 := ⟨by decide +kernel, rfl⟩
theorem kX6_best_31 : Dk mtX6_best 31 (.if_icmp .le 7) 3 34 := ⟨by decide +kernel, rfl⟩
theorem kX6_best_34 : Dk mtX6_best 34 (.iload_n 3) 1 35 := ⟨by decide +kernel, rfl⟩
theorem kX6_best_35 : Dk mtX6_best 35 (.goto 4) 3 38 := ⟨by decide +kernel, rfl⟩
theorem kX6_best_38 : Dk mtX6_best 38 (.iload_n 2) 1 39 := ⟨by decide +kernel, rfl⟩
theorem kX6_best_39 : Dk mtX6_best 39 (.istore_n 2) 1 40 := ⟨by decide +kernel, rfl⟩
theorem kX6_best_40 : Dk mtX6_best 40 (.iinc 3 1) 3 43 := ⟨by decide +kernel, rfl⟩
theorem kX6_best_43 : Dk mtX6_best 43 (.goto (-39)) 3 46 := ⟨by decide +kernel, rfl⟩
theorem kX6_best_46 : Dk mtX6_best 46 (.iload_n 2) 1 47 := ⟨by decide +kernel, rfl⟩
theorem kX6_best_47 : Dk mtX6_best 47 (.ireturn) 1 48 := ⟨by decide +kernel, rfl⟩
theorem lmX6_56 : LkM RX6 56 mtX6_worth := Or.inl (by decide +kernel)
theorem mkX6_worth : MkV mtX6_worth 2 := ⟨List.mem_of_getElem? (i := 1213) (by decide +kernel), by decide +kernel, by decide +kernel, by decide +kernel, ⟨by decide +kernel, by decide +kernel, by decide +kernel⟩⟩
set_option maxHeartbeats 4000000 in
set_option maxRecDepth 100000 in
theorem ct_best {l : Launch} {w : Wd} {sg : Sg} (hWr : Wr w) {mo : Nat} (q : Int32) (hc : 0 ≤ (sg (mo + 1) 4).toInt ∧ (sg (mo + 1) 4).toInt ≤ 6) (hl : ∀ n, n < tn (sg (mo + 1) 4) → ¬ gL (sg (mo + 1)) (nI n) 3 = 0) : M l mtX6_best w [vR (some (6, 0, mo)), vI q] sg (fI (F_best (sg (mo + 1)) q) sg) := by
  refine M_of [some (vR (some (6, 0, mo))), some (vI q), none, none] rfl (Nat.le_of_ble_eq_true rfl) (by decide +kernel) ?_
  intro p_ e_ s_ m_ args_ below_ meth_ c_ hC hO
  refine V_iconst hC (-1) kX6_best_0 (by decide) ?_
  refine V_istore_n hC [some _, some _, some _, none] kX6_best_1 rfl (Nat.le_of_ble_eq_true rfl) ?_
  refine V_iconst hC (0) kX6_best_2 (by decide) ?_
  refine V_istore_n hC [some _, some _, some _, some _] kX6_best_3 rfl (Nat.le_of_ble_eq_true rfl) ?_
  refine V_loop (tn ((sg (mo + 1)) 4)) (fun i => [some (vR (some (6, 0, mo))), some (vI q), some (vI (F_bestN (sg (mo + 1)) q i)), some (vI (nI i))]) (fun i => sg) rfl rfl ?_ (fun i hi ihi => ?_)
  · refine V_iload_n hC kX6_best_4 rfl ?_
    refine V_aload_n hC kX6_best_5 rfl ?_
    refine V_getR hC hWr 6 1 lfX6_7 kX6_best_6 (Nat.le_of_ble_eq_true rfl) (Nat.le_of_ble_eq_true rfl) rfl ?_
    refine V_iconst hC (4) kX6_best_9 (by decide) ?_
    refine V_iald hC 4 rfl kX6_best_10 (vp_lit rfl) ?_
    refine V_icmp_ge hC 46 kX6_best_11 (by decide) (fun h11 => ?_) (fun h11 => absurd h11 (not_not_intro (cnt_le hc.1)))
    refine V_iload_n hC kX6_best_46 rfl ?_
    refine V_ireti hC rfl kX6_best_47 ?_
    refine ⟨cI ?_, by with_reducible rfl⟩
    unfold F_best
    with_reducible rfl
  · have hi6 := (cnt_in (n := 6) hc.1 hc.2).1
    have hbi : ¬ F_bestN (sg (mo + 1)) q i = -1 → ∃ j, j < tn (sg (mo + 1) 4) ∧ F_bestN (sg (mo + 1)) q i = nI j := fun z => by
      rcases F_bestN_in (sg (mo + 1)) q i with h | ⟨j, h1, h2⟩
      · exact absurd h z
      · exact ⟨j, by omega, h2⟩
    refine V_iload_n hC kX6_best_4 rfl ?_
    refine V_aload_n hC kX6_best_5 rfl ?_
    refine V_getR hC hWr 6 1 lfX6_7 kX6_best_6 (Nat.le_of_ble_eq_true rfl) (Nat.le_of_ble_eq_true rfl) rfl ?_
    refine V_iconst hC (4) kX6_best_9 (by decide) ?_
    refine V_iald hC 4 rfl kX6_best_10 (vp_lit rfl) ?_
    refine V_icmp_ge hC 46 kX6_best_11 (by decide) (fun h11 => absurd h11 (cnt_lt hc.1 hi)) (fun h11 => ?_)
    refine V_join 39 (F_bestN (sg (mo + 1)) q (i + 1)) ?_ (fun j39 => ?_)
    · refine V_istore_n hC [some _, some _, some _, some _] kX6_best_39 rfl (Nat.le_of_ble_eq_true rfl) ?_
      refine V_iinc hC (_ + 1) [some _, some _, some _, some _] kX6_best_40 rfl rfl rfl (Nat.le_of_ble_eq_true rfl) ?_
      refine V_goto hC 4 kX6_best_43 (by decide) ?_
      refine V_eq ?_ rfl ihi
      simp only [nI_succ]
    · refine V_iload_n hC kX6_best_14 rfl ?_
      refine V_iconst hC (-1) kX6_best_15 (by decide) ?_
      refine V_icmp_eq hC 34 kX6_best_16 (by decide) (fun h16 => ?_) (fun h16 => ?_)
      · refine V_iload_n hC kX6_best_34 rfl ?_
        refine V_goto hC 39 kX6_best_35 (by decide) ?_
        exact j39 _ ((by rw [F_bestN, if_pos (Or.inl h16)]))
      · obtain ⟨jb, hjb, ejb⟩ := hbi h16
        refine V_aload_n hC kX6_best_19 rfl ?_
        refine V_iload_n hC kX6_best_20 rfl ?_
        refine V_iload_n hC kX6_best_21 rfl ?_
        refine V_cV_fI hC (ct_worth hWr (nI i) q (vp_in_nI (by omega) (by decide)) (fun _ => hl i hi)) mkX6_worth lmX6_56 kX6_best_22 (Nat.le_of_ble_eq_true rfl) rfl rfl rfl (Nat.le_of_ble_eq_true rfl) ⟨(Nat.le_of_ble_eq_true rfl), (Nat.le_of_ble_eq_true rfl)⟩ ⟨rfl, rfl⟩ ⟨(Nat.le_of_ble_eq_true rfl), (Nat.le_of_ble_eq_true rfl)⟩ ?_
        refine V_aload_n hC kX6_best_25 rfl ?_
        refine V_iload_n hC kX6_best_26 rfl ?_
        refine V_iload_n hC kX6_best_27 rfl ?_
        refine V_cV_fI hC (ct_worth hWr _ q (by rw [ejb]; exact vp_in_nI (by omega) (by decide)) (fun _ => by rw [ejb]; exact hl jb hjb)) mkX6_worth lmX6_56 kX6_best_28 (Nat.le_of_ble_eq_true rfl) rfl rfl rfl (Nat.le_of_ble_eq_true rfl) ⟨(Nat.le_of_ble_eq_true rfl), (Nat.le_of_ble_eq_true rfl)⟩ ⟨rfl, rfl⟩ ⟨(Nat.le_of_ble_eq_true rfl), (Nat.le_of_ble_eq_true rfl)⟩ ?_
        refine V_icmp_le hC 38 kX6_best_31 (by decide) (fun h31 => ?_) (fun h31 => ?_)
        · refine V_iload_n hC kX6_best_38 rfl ?_
          exact j39 _ ((by rw [F_bestN, if_neg (fun z => z.elim h16 (fun z => absurd z (Int32.not_lt.mpr h31)))]))
        · refine V_iload_n hC kX6_best_34 rfl ?_
          refine V_goto hC 39 kX6_best_35 (by decide) ?_
          exact j39 _ ((by rw [F_bestN, if_pos (Or.inr (Int32.not_le.mp h31))]))
def mtX6_sails : Mt := (yX6_sails, cX6_sails, 3, none, 2, 42, 0, 0)
theorem kX6_sails_0 : Dk mtX6_sails 0 (.aload_n 0) 1 1 := ⟨by decide +kernel, rfl⟩
theorem kX6_sails_1 : Dk mtX6_sails 1 (.iload_n 1) 1 2 := ⟨by decide +kernel, rfl⟩
theorem kX6_sails_2 : Dk mtX6_sails 2 (.iconst 0) 1 3 := ⟨by decide +kernel, rfl⟩
theorem kX6_sails_3 : Dk mtX6_sails 3 (.invokevirtual 53) 3 6 := ⟨by decide +kernel, rfl⟩
theorem kX6_sails_6 : Dk mtX6_sails 6 (.aload_n 0) 1 7 := ⟨by decide +kernel, rfl⟩
theorem kX6_sails_7 : Dk mtX6_sails 7 (.iload_n 1) 1 8 := ⟨by decide +kernel, rfl⟩
theorem kX6_sails_8 : Dk mtX6_sails 8 (.iconst 1) 1 9 := ⟨by decide +kernel, rfl⟩
theorem kX6_sails_9 : Dk mtX6_sails 9 (.invokevirtual 53) 3 12 := ⟨by decide +kernel, rfl⟩
theorem kX6_sails_12 : Dk mtX6_sails 12 (.iadd) 1 13 := ⟨by decide +kernel, rfl⟩
theorem kX6_sails_13 : Dk mtX6_sails 13 (.istore_n 2) 1 14 := ⟨by decide +kernel, rfl⟩
theorem kX6_sails_14 : Dk mtX6_sails 14 (.iload_n 2) 1 15 := ⟨by decide +kernel, rfl⟩
theorem kX6_sails_15 : Dk mtX6_sails 15 (.invokestatic 59) 3 18 := ⟨by decide +kernel, rfl⟩
theorem kX6_sails_18 : Dk mtX6_sails 18 (.ifCond .eq 13) 3 21 := ⟨by decide +kernel, rfl⟩
theorem kX6_sails_21 : Dk mtX6_sails 21 (.aload_n 0) 1 22 := ⟨by decide +kernel, rfl⟩
theorem kX6_sails_22 : Dk mtX6_sails 22 (.iload_n 1) 1 23 := ⟨by decide +kernel, rfl⟩
theorem kX6_sails_23 : Dk mtX6_sails 23 (.iconst 0) 1 24 := ⟨by decide +kernel, rfl⟩
theorem kX6_sails_24 : Dk mtX6_sails 24 (.iload_n 2) 1 25 := ⟨by decide +kernel, rfl⟩
theorem kX6_sails_25 : Dk mtX6_sails 25 (.invokevirtual 63) 3 28 := ⟨by decide +kernel, rfl⟩
theorem kX6_sails_28 : Dk mtX6_sails 28 (.goto 16) 3 31 := ⟨by decide +kernel, rfl⟩
theorem kX6_sails_31 : Dk mtX6_sails 31 (.aload_n 0) 1 32 := ⟨by decide +kernel, rfl⟩
theorem kX6_sails_32 : Dk mtX6_sails 32 (.iload_n 1) 1 33 := ⟨by decide +kernel, rfl⟩
theorem kX6_sails_33 : Dk mtX6_sails 33 (.iconst 1) 1 34 := ⟨by decide +kernel, rfl⟩
theorem kX6_sails_34 : Dk mtX6_sails 34 (.aload_n 0) 1 35 := ⟨by decide +kernel, rfl⟩
theorem kX6_sails_35 : Dk mtX6_sails 35 (.iload_n 1) 1 36 := ⟨by decide +kernel, rfl⟩
theorem kX6_sails_36 : Dk mtX6_sails 36 (.iconst 1) 1 37 := ⟨by decide +kernel, rfl⟩
theorem kX6_sails_37 : Dk mtX6_sails 37 (.invokevirtual 53) 3 40 := ⟨by decide +kernel, rfl⟩
theorem kX6_sails_40 : Dk mtX6_sails 40 (.ineg) 1 41 := ⟨by decide +kernel, rfl⟩
theorem kX6_sails_41 : Dk mtX6_sails 41 (.invokevirtual 63) 3 44 := ⟨by decide +kernel, rfl⟩
theorem kX6_sails_44 : Dk mtX6_sails 44 (.return_) 1 45 := ⟨by decide +kernel, rfl⟩
theorem lmX6_59 : LkM RX6 59 mtX6_isPlace := Or.inl (by decide +kernel)
theorem mkX6_isPlace : MkS mtX6_isPlace 1 := ⟨List.mem_of_getElem? (i := 1116) (by decide +kernel), by decide +kernel, by decide +kernel, ⟨by decide +kernel, by decide +kernel, by decide +kernel⟩⟩
theorem lmX6_63 : LkM RX6 63 mtX6_layBoat := Or.inl (by decide +kernel)
theorem mkX6_layBoat : MkV mtX6_layBoat 3 := ⟨List.mem_of_getElem? (i := 1139) (by decide +kernel), by decide +kernel, by decide +kernel, by decide +kernel, ⟨by decide +kernel, by decide +kernel, by decide +kernel⟩⟩
set_option maxHeartbeats 4000000 in
set_option maxRecDepth 100000 in
theorem ct_sails {l : Launch} {w : Wd} {sg : Sg} (hWr : Wr w) {mo : Nat} (a : Int32) (ha : vp_in a 8) : M l mtX6_sails w [vR (some (6, 0, mo)), vI a] sg (fV0 (upr sg (mo + 1) (F_sails (sg (mo + 1)) a))) := by
  refine M_of [some (vR (some (6, 0, mo))), some (vI a), none] rfl (Nat.le_of_ble_eq_true rfl) (by decide +kernel) ?_
  intro p_ e_ s_ m_ args_ below_ meth_ c_ hC hO
  refine V_aload_n hC kX6_sails_0 rfl ?_
  refine V_iload_n hC kX6_sails_1 rfl ?_
  refine V_iconst hC (0) kX6_sails_2 (by decide) ?_
  refine V_cV_fI hC (ct_ofBoat hWr a 0 ha (vp_lit rfl)) mkX6_ofBoat lmX6_53 kX6_sails_3 (Nat.le_of_ble_eq_true rfl) rfl rfl rfl (Nat.le_of_ble_eq_true rfl) ⟨(Nat.le_of_ble_eq_true rfl), (Nat.le_of_ble_eq_true rfl)⟩ ⟨rfl, rfl⟩ ⟨(Nat.le_of_ble_eq_true rfl), (Nat.le_of_ble_eq_true rfl)⟩ ?_
  refine V_aload_n hC kX6_sails_6 rfl ?_
  refine V_iload_n hC kX6_sails_7 rfl ?_
  refine V_iconst hC (1) kX6_sails_8 (by decide) ?_
  refine V_cV_fI hC (ct_ofBoat hWr a 1 ha (vp_lit rfl)) mkX6_ofBoat lmX6_53 kX6_sails_9 (Nat.le_of_ble_eq_true rfl) rfl rfl rfl (Nat.le_of_ble_eq_true rfl) ⟨(Nat.le_of_ble_eq_true rfl), (Nat.le_of_ble_eq_true rfl)⟩ ⟨rfl, rfl⟩ ⟨(Nat.le_of_ble_eq_true rfl), (Nat.le_of_ble_eq_true rfl)⟩ ?_
  refine V_iadd hC kX6_sails_12 ?_
  refine V_nameI (fun to e_to => ?_)
  refine V_istore_n hC [some _, some _, some _] kX6_sails_13 rfl (Nat.le_of_ble_eq_true rfl) ?_
  refine V_iload_n hC kX6_sails_14 rfl ?_
  refine V_cS_fI hC (ct_isPlace hWr _) mkX6_isPlace lmX6_59 kX6_sails_15 rfl rfl (Nat.le_of_ble_eq_true rfl) ⟨(Nat.le_of_ble_eq_true rfl), (Nat.le_of_ble_eq_true rfl)⟩ ⟨rfl, rfl⟩ ⟨(Nat.le_of_ble_eq_true rfl), (Nat.le_of_ble_eq_true rfl)⟩ ?_
  refine V_if_eq hC 31 kX6_sails_18 (by decide) (fun h18 => ?_) (fun h18 => ?_)
  · refine V_aload_n hC kX6_sails_31 rfl ?_
    refine V_iload_n hC kX6_sails_32 rfl ?_
    refine V_iconst hC (1) kX6_sails_33 (by decide) ?_
    refine V_aload_n hC kX6_sails_34 rfl ?_
    refine V_iload_n hC kX6_sails_35 rfl ?_
    refine V_iconst hC (1) kX6_sails_36 (by decide) ?_
    refine V_cV_fI hC (ct_ofBoat hWr a 1 ha (vp_lit rfl)) mkX6_ofBoat lmX6_53 kX6_sails_37 (Nat.le_of_ble_eq_true rfl) rfl rfl rfl (Nat.le_of_ble_eq_true rfl) ⟨(Nat.le_of_ble_eq_true rfl), (Nat.le_of_ble_eq_true rfl)⟩ ⟨rfl, rfl⟩ ⟨(Nat.le_of_ble_eq_true rfl), (Nat.le_of_ble_eq_true rfl)⟩ ?_
    refine V_ineg hC kX6_sails_40 ?_
    refine V_cV_fV hC (ct_layBoat hWr a 1 _ ha (vp_lit rfl)) mkX6_layBoat lmX6_63 kX6_sails_41 (Nat.le_of_ble_eq_true rfl) rfl rfl rfl (Nat.le_of_ble_eq_true rfl) ⟨(Nat.le_of_ble_eq_true rfl), (Nat.le_of_ble_eq_true rfl)⟩ ⟨rfl, rfl⟩ ⟨(Nat.le_of_ble_eq_true rfl), (Nat.le_of_ble_eq_true rfl)⟩ ?_
    refine V_vret hC rfl kX6_sails_44 ?_
    refine ⟨by with_reducible rfl, ?_⟩
    subst e_to
    unfold F_sails
    first | rw [if_neg (b01e.mp h18)] | rw [if_pos (b01n.mp h18)]
  · refine V_aload_n hC kX6_sails_21 rfl ?_
    refine V_iload_n hC kX6_sails_22 rfl ?_
    refine V_iconst hC (0) kX6_sails_23 (by decide) ?_
    refine V_iload_n hC kX6_sails_24 rfl ?_
    refine V_cV_fV hC (ct_layBoat hWr a 0 _ ha (vp_lit rfl)) mkX6_layBoat lmX6_63 kX6_sails_25 (Nat.le_of_ble_eq_true rfl) rfl rfl rfl (Nat.le_of_ble_eq_true rfl) ⟨(Nat.le_of_ble_eq_true rfl), (Nat.le_of_ble_eq_true rfl)⟩ ⟨rfl, rfl⟩ ⟨(Nat.le_of_ble_eq_true rfl), (Nat.le_of_ble_eq_true rfl)⟩ ?_
    refine V_goto hC 44 kX6_sails_28 (by decide) ?_
    refine V_vret hC rfl kX6_sails_44 ?_
    refine ⟨by with_reducible rfl, ?_⟩
    subst e_to
    unfold F_sails
    first | rw [if_neg (b01e.mp h18)] | rw [if_pos (b01n.mp h18)]
def mtX6_drops : Mt := (yX6_drops, cX6_drops, 2, none, 1, 23, 0, 0)
theorem kX6_drops_0 : Dk mtX6_drops 0 (.aload_n 0) 1 1 := ⟨by decide +kernel, rfl⟩
theorem kX6_drops_1 : Dk mtX6_drops 1 (.iload_n 1) 1 2 := ⟨by decide +kernel, rfl⟩
theorem kX6_drops_2 : Dk mtX6_drops 2 (.iconst 2) 1 3 := ⟨by decide +kernel, rfl⟩
theorem kX6_drops_3 : Dk mtX6_drops 3 (.iconst 0) 1 4 := ⟨by decide +kernel, rfl⟩
theorem kX6_drops_4 : Dk mtX6_drops 4 (.invokevirtual 63) 3 7 := ⟨by decide +kernel, rfl⟩
theorem kX6_drops_7 : Dk mtX6_drops 7 (.aload_n 0) 1 8 := ⟨by decide +kernel, rfl⟩
theorem kX6_drops_8 : Dk mtX6_drops 8 (.iload_n 1) 1 9 := ⟨by decide +kernel, rfl⟩
theorem kX6_drops_9 : Dk mtX6_drops 9 (.iconst 4) 1 10 := ⟨by decide +kernel, rfl⟩
theorem kX6_drops_10 : Dk mtX6_drops 10 (.iconst 0) 1 11 := ⟨by decide +kernel, rfl⟩
theorem kX6_drops_11 : Dk mtX6_drops 11 (.invokevirtual 63) 3 14 := ⟨by decide +kernel, rfl⟩
theorem kX6_drops_14 : Dk mtX6_drops 14 (.aload_n 0) 1 15 := ⟨by decide +kernel, rfl⟩
theorem kX6_drops_15 : Dk mtX6_drops 15 (.iload_n 1) 1 16 := ⟨by decide +kernel, rfl⟩
theorem kX6_drops_16 : Dk mtX6_drops 16 (.iconst 5) 1 17 := ⟨by decide +kernel, rfl⟩
theorem kX6_drops_17 : Dk mtX6_drops 17 (.iconst 0) 1 18 := ⟨by decide +kernel, rfl⟩
theorem kX6_drops_18 : Dk mtX6_drops 18 (.invokevirtual 63) 3 21 := ⟨by decide +kernel, rfl⟩
theorem kX6_drops_21 : Dk mtX6_drops 21 (.aload_n 0) 1 22 := ⟨by decide +kernel, rfl⟩
theorem kX6_drops_22 : Dk mtX6_drops 22 (.getfield 7) 3 25 := ⟨by decide +kernel, rfl⟩
theorem kX6_drops_25 : Dk mtX6_drops 25 (.bipush 10) 2 27 := ⟨by decide +kernel, rfl⟩
theorem kX6_drops_27 : Dk mtX6_drops 27 (.dup2) 1 28 := ⟨by decide +kernel, rfl⟩
theorem kX6_drops_28 : Dk mtX6_drops 28 (.iaload) 1 29 := ⟨by decide +kernel, rfl⟩
theorem kX6_drops_29 : Dk mtX6_drops 29 (.aload_n 0) 1 30 := ⟨by decide +kernel, rfl⟩
theorem kX6_drops_30 : Dk mtX6_drops 30 (.iload_n 1) 1 31 := ⟨by decide +kernel, rfl⟩
theorem kX6_drops_31 : Dk mtX6_drops 31 (.iconst 3) 1 32 := ⟨by decide +kernel, rfl⟩
theorem kX6_drops_32 : Dk mtX6_drops 32 (.invokevirtual 53) 3 35 := ⟨by decide +kernel, rfl⟩
theorem kX6_drops_35 : Dk mtX6_drops 35 (.ifCond .le 7) 3 38 := ⟨by decide +kernel, rfl⟩
theorem kX6_drops_38 : Dk mtX6_drops 38 (.iconst 1) 1 39 := ⟨by decide +kernel, rfl⟩
theorem kX6_drops_39 : Dk mtX6_drops 39 (.goto 4) 3 42 := ⟨by decide +kernel, rfl⟩
theorem kX6_drops_42 : Dk mtX6_drops 42 (.iconst 0) 1 43 := ⟨by decide +kernel, rfl⟩
theorem kX6_drops_43 : Dk mtX6_drops 43 (.iadd) 1 44 := ⟨by decide +kernel, rfl⟩
theorem kX6_drops_44 : Dk mtX6_drops 44 (.iastore) 1 45 := ⟨by decide +kernel, rfl⟩
theorem kX6_drops_45 : Dk mtX6_drops 45 (.aload_n 0) 1 46 := ⟨by decide +kernel, rfl⟩
theorem kX6_drops_46 : Dk mtX6_drops 46 (.iload_n 1) 1 47 := ⟨by decide +kernel, rfl⟩
theorem kX6_drops_47 : Dk mtX6_drops 47 (.iconst 3) 1 48 := ⟨by decide +kernel, rfl⟩
theorem kX6_drops_48 : Dk mtX6_drops 48 (.iconst 0) 1 49 := ⟨by decide +kernel, rfl⟩
theorem kX6_drops_49 : Dk mtX6_drops 49 (.invokevirtual 63) 3 52 := ⟨by decide +kernel, rfl⟩
theorem kX6_drops_52 : Dk mtX6_drops 52 (.return_) 1 53 := ⟨by decide +kernel, rfl⟩
set_option maxHeartbeats 4000000 in
set_option maxRecDepth 100000 in
theorem ct_drops {l : Launch} {w : Wd} {sg : Sg} (hWr : Wr w) {mo : Nat} (a : Int32) (ha : vp_in a 8) : M l mtX6_drops w [vR (some (6, 0, mo)), vI a] sg (fV0 (upr sg (mo + 1) (F_drops (sg (mo + 1)) a))) := by
  refine M_of [some (vR (some (6, 0, mo))), some (vI a)] rfl (Nat.le_of_ble_eq_true rfl) (by decide +kernel) ?_
  intro p_ e_ s_ m_ args_ below_ meth_ c_ hC hO
  refine V_aload_n hC kX6_drops_0 rfl ?_
  refine V_iload_n hC kX6_drops_1 rfl ?_
  refine V_iconst hC (2) kX6_drops_2 (by decide) ?_
  refine V_iconst hC (0) kX6_drops_3 (by decide) ?_
  refine V_cV_fV hC (ct_layBoat hWr a 2 _ ha (vp_lit rfl)) mkX6_layBoat lmX6_63 kX6_drops_4 (Nat.le_of_ble_eq_true rfl) rfl rfl rfl (Nat.le_of_ble_eq_true rfl) ⟨(Nat.le_of_ble_eq_true rfl), (Nat.le_of_ble_eq_true rfl)⟩ ⟨rfl, rfl⟩ ⟨(Nat.le_of_ble_eq_true rfl), (Nat.le_of_ble_eq_true rfl)⟩ ?_
  refine V_aload_n hC kX6_drops_7 rfl ?_
  refine V_iload_n hC kX6_drops_8 rfl ?_
  refine V_iconst hC (4) kX6_drops_9 (by decide) ?_
  refine V_iconst hC (0) kX6_drops_10 (by decide) ?_
  refine V_cV_fV hC (ct_layBoat hWr a 4 _ ha (vp_lit rfl)) mkX6_layBoat lmX6_63 kX6_drops_11 (Nat.le_of_ble_eq_true rfl) rfl rfl rfl (Nat.le_of_ble_eq_true rfl) ⟨(Nat.le_of_ble_eq_true rfl), (Nat.le_of_ble_eq_true rfl)⟩ ⟨rfl, rfl⟩ ⟨(Nat.le_of_ble_eq_true rfl), (Nat.le_of_ble_eq_true rfl)⟩ ?_
  refine V_aload_n hC kX6_drops_14 rfl ?_
  refine V_iload_n hC kX6_drops_15 rfl ?_
  refine V_iconst hC (5) kX6_drops_16 (by decide) ?_
  refine V_iconst hC (0) kX6_drops_17 (by decide) ?_
  refine V_cV_fV hC (ct_layBoat hWr a 5 _ ha (vp_lit rfl)) mkX6_layBoat lmX6_63 kX6_drops_18 (Nat.le_of_ble_eq_true rfl) rfl rfl rfl (Nat.le_of_ble_eq_true rfl) ⟨(Nat.le_of_ble_eq_true rfl), (Nat.le_of_ble_eq_true rfl)⟩ ⟨rfl, rfl⟩ ⟨(Nat.le_of_ble_eq_true rfl), (Nat.le_of_ble_eq_true rfl)⟩ ?_
  refine V_canon (upr sg (mo + 1) (F_dropsA (sg (mo + 1)) a)) (by simp only [upr_upr, upr_at, F_dropsA]) ?_
  refine V_aload_n hC kX6_drops_21 rfl ?_
  refine V_getR hC hWr 6 1 lfX6_7 kX6_drops_22 (Nat.le_of_ble_eq_true rfl) (Nat.le_of_ble_eq_true rfl) rfl ?_
  refine V_bipush hC (10) kX6_drops_25 (by decide) ?_
  refine V_dup2 hC kX6_drops_27 rfl rfl ?_
  refine V_iald hC 10 rfl kX6_drops_28 (vp_lit rfl) ?_
  refine V_join 43 (b01 (0 < gB ((upr sg (mo + 1) (F_dropsA (sg (mo + 1)) a)) (mo + 1)) a 3)) ?_ (fun j43 => ?_)
  · refine V_iadd hC kX6_drops_43 ?_
    refine V_iast hC 10 rfl kX6_drops_44 (vp_lit rfl) ?_
    refine V_aload_n hC kX6_drops_45 rfl ?_
    refine V_iload_n hC kX6_drops_46 rfl ?_
    refine V_iconst hC (3) kX6_drops_47 (by decide) ?_
    refine V_iconst hC (0) kX6_drops_48 (by decide) ?_
    refine V_cV_fV hC (ct_layBoat hWr a 3 _ ha (vp_lit rfl)) mkX6_layBoat lmX6_63 kX6_drops_49 (Nat.le_of_ble_eq_true rfl) rfl rfl rfl (Nat.le_of_ble_eq_true rfl) ⟨(Nat.le_of_ble_eq_true rfl), (Nat.le_of_ble_eq_true rfl)⟩ ⟨rfl, rfl⟩ ⟨(Nat.le_of_ble_eq_true rfl), (Nat.le_of_ble_eq_true rfl)⟩ ?_
    refine V_vret hC rfl kX6_drops_52 ?_
    refine ⟨by with_reducible rfl, ?_⟩
    unfold F_drops
    simp only [upr_upr, upr_at, ups, upr_self]
  · refine V_aload_n hC kX6_drops_29 rfl ?_
    refine V_iload_n hC kX6_drops_30 rfl ?_
    refine V_iconst hC (3) kX6_drops_31 (by decide) ?_
    refine V_cV_fI hC (ct_ofBoat hWr a 3 ha (vp_lit rfl)) mkX6_ofBoat lmX6_53 kX6_drops_32 (Nat.le_of_ble_eq_true rfl) rfl rfl rfl (Nat.le_of_ble_eq_true rfl) ⟨(Nat.le_of_ble_eq_true rfl), (Nat.le_of_ble_eq_true rfl)⟩ ⟨rfl, rfl⟩ ⟨(Nat.le_of_ble_eq_true rfl), (Nat.le_of_ble_eq_true rfl)⟩ ?_
    refine V_if_le hC 42 kX6_drops_35 (by decide) (fun h35 => ?_) (fun h35 => ?_)
    · refine V_iconst hC (0) kX6_drops_42 (by decide) ?_
      exact j43 _ ((b01_f (Int32.not_lt.mpr h35)).symm)
    · refine V_iconst hC (1) kX6_drops_38 (by decide) ?_
      refine V_goto hC 43 kX6_drops_39 (by decide) ?_
      exact j43 _ ((b01_t (Int32.not_le.mp h35)).symm)
def mtX6_wished : Mt := (yX6_wished, cX6_wished, 7, (some .int), 3, 70, 0, 0)
theorem kX6_wished_0 : Dk mtX6_wished 0 (.aload_n 0) 1 1 := ⟨by decide +kernel, rfl⟩
theorem kX6_wished_1 : Dk mtX6_wished 1 (.iload_n 1) 1 2 := ⟨by decide +kernel, rfl⟩
theorem kX6_wished_2 : Dk mtX6_wished 2 (.iconst 2) 1 3 := ⟨by decide +kernel, rfl⟩
theorem kX6_wished_3 : Dk mtX6_wished 3 (.invokevirtual 53) 3 6 := ⟨by decide +kernel, rfl⟩
theorem kX6_wished_6 : Dk mtX6_wished 6 (.iconst 1) 1 7 := ⟨by decide +kernel, rfl⟩
theorem kX6_wished_7 : Dk mtX6_wished 7 (.isub) 1 8 := ⟨by decide +kernel, rfl⟩
theorem kX6_wished_8 : Dk mtX6_wished 8 (.istore_n 2) 1 9 := ⟨by decide +kernel, rfl⟩
theorem kX6_wished_9 : Dk mtX6_wished 9 (.aload_n 0) 1 10 := ⟨by decide +kernel, rfl⟩
theorem kX6_wished_10 : Dk mtX6_wished 10 (.iload_n 1) 1 11 := ⟨by decide +kernel, rfl⟩
theorem kX6_wished_11 : Dk mtX6_wished 11 (.iconst 0) 1 12 := ⟨by decide +kernel, rfl⟩
theorem kX6_wished_12 : Dk mtX6_wished 12 (.invokevirtual 53) 3 15 := ⟨by decide +kernel, rfl⟩
theorem kX6_wished_15 : Dk mtX6_wished 15 (.istore_n 3) 1 16 := ⟨by decide +kernel, rfl⟩
theorem kX6_wished_16 : Dk mtX6_wished 16 (.iconst (-1)) 1 17 := ⟨by decide +kernel, rfl⟩
theorem kX6_wished_17 : Dk mtX6_wished 17 (.istore 4) 2 19 := ⟨by decide +kernel, rfl⟩
theorem kX6_wished_19 : Dk mtX6_wished 19 (.iconst 0) 1 20 := ⟨by decide +kernel, rfl⟩
theorem kX6_wished_20 : Dk mtX6_wished 20 (.istore 5) 2 22 := ⟨by decide +kernel, rfl⟩
theorem kX6_wished_22 : Dk mtX6_wished 22 (.iload 5) 2 24 := ⟨by decide +kernel, rfl⟩
theorem kX6_wished_24 : Dk mtX6_wished 24 (.aload_n 0) 1 25 := ⟨by decide +kernel, rfl⟩
theorem kX6_wished_25 : Dk mtX6_wished 25 (.getfield 7) 3 28 := ⟨by decide +kernel, rfl⟩
theorem kX6_wished_28 : Dk mtX6_wished 28 (.iconst 4) 1 29 := ⟨by decide +kernel, rfl⟩
theorem kX6_wished_29 : Dk mtX6_wished 29 (.iaload) 1 30 := ⟨by decide +kernel, rfl⟩
theorem kX6_wished_30 : Dk mtX6_wished 30 (.if_icmp .ge 82) 3 33 := ⟨by decide +kernel, rfl⟩
theorem kX6_wished_33 : Dk mtX6_wished 33 (.iload 5) 2 35 := ⟨by decide +kernel, rfl⟩
theorem kX6_wished_35 : Dk mtX6_wished 35 (.iload_n 2) 1 36 := ⟨by decide +kernel, rfl⟩
theorem kX6_wished_36 : Dk mtX6_wished 36 (.if_icmp .eq 30) 3 39 := ⟨by decide +kernel, rfl⟩
theorem kX6_wished_39 : Dk mtX6_wished 39 (.aload_n 0) 1 40 := ⟨by decide +kernel, rfl⟩
theorem kX6_wished_40 : Dk mtX6_wished 40 (.iload 5) 2 42 := ⟨by decide +kernel, rfl⟩
theorem kX6_wished_42 : Dk mtX6_wished 42 (.iload_n 3) 1 43 := ⟨by decide +kernel, rfl⟩
theorem kX6_wished_43 : Dk mtX6_wished 43 (.invokevirtual 56) 3 46 := ⟨by decide +kernel, rfl⟩
theorem kX6_wished_46 : Dk mtX6_wished 46 (.aload_n 0) 1 47 := ⟨by decide +kernel, rfl⟩
theorem kX6_wished_47 : Dk mtX6_wished 47 (.iload_n 2) 1 48 := ⟨by decide +kernel, rfl⟩
theorem kX6_wished_48 : Dk mtX6_wished 48 (.iload_n 3) 1 49 := ⟨by decide +kernel, rfl⟩
theorem kX6_wished_49 : Dk mtX6_wished 49 (.invokevirtual 56) 3 52 := ⟨by decide +kernel, rfl⟩
theorem kX6_wished_52 : Dk mtX6_wished 52 (.aload_n 0) 1 53 := ⟨by decide +kernel, rfl⟩
theorem kX6_wished_53 : Dk mtX6_wished 53 (.getfield 7) 3 56 := ⟨by decide +kernel, rfl⟩
theorem kX6_wished_56 : Dk mtX6_wished 56 (.iconst 0) 1 57 := ⟨by decide +kernel, rfl⟩
theorem kX6_wished_57 : Dk mtX6_wished 57 (.iaload) 1 58 := ⟨by decide +kernel, rfl⟩
theorem kX6_wished_58 : Dk mtX6_wished 58 (.iadd) 1 59 := ⟨by decide +kernel, rfl⟩
theorem kX6_wished_59 : Dk mtX6_wished 59 (.if_icmp .lt 7) 3 62 := ⟨by decide +kernel, rfl⟩
theorem kX6_wished_62 : Dk mtX6_wished 62 (.iconst 1) 1 63 := ⟨by decide +kernel, rfl⟩
theorem kX6_wished_63 : Dk mtX6_wished 63 (.goto 4) 3 66 := ⟨by decide +kernel, rfl⟩
theorem kX6_wished_66 : Dk mtX6_wished 66 (.iconst 0) 1 67 := ⟨by decide +kernel, rfl⟩
theorem kX6_wished_67 : Dk mtX6_wished 67 (.istore 6) 2 69 := ⟨by decide +kernel, rfl⟩
theorem kX6_wished_69 : Dk mtX6_wished 69 (.iload 6) 2 71 := ⟨by decide +kernel, rfl⟩
theorem kX6_wished_71 : Dk mtX6_wished 71 (.ifCond .eq 31) 3 74 := ⟨by decide +kernel, rfl⟩
theorem kX6_wished_74 : Dk mtX6_wished 74 (.iload 4) 2 76 := ⟨by decide +kernel, rfl⟩
theorem kX6_wished_76 : Dk mtX6_wished 76 (.iconst (-1)) 1 77 := ⟨by decide +kernel, rfl⟩
theorem kX6_wished_77 : Dk mtX6_wished 77 (.if_icmp .eq 20) 3 80 := ⟨by decide +kernel, rfl⟩
theorem kX6_wished_80 : Dk mtX6_wished 80 (.aload_n 0) 1 81 := ⟨by decide +kernel, rfl⟩
theorem kX6_wished_81 : Dk mtX6_wished 81 (.iload 5) 2 83 := ⟨by decide +kernel, rfl⟩
theorem kX6_wished_83 : Dk mtX6_wished 83 (.iload_n 3) 1 84 := ⟨by decide +kernel, rfl⟩
theorem kX6_wished_84 : Dk mtX6_wished 84 (.invokevirtual 56) 3 87 := ⟨by decide +kernel, rfl⟩
theorem kX6_wished_87 : Dk mtX6_wished 87 (.aload_n 0) 1 88 := ⟨by decide +kernel, rfl⟩
theorem kX6_wished_88 : Dk mtX6_wished 88 (.iload 4) 2 90 := ⟨by decide +kernel, rfl⟩
theorem kX6_wished_90 : Dk mtX6_wished 90 (.iload_n 3) 1 91 := ⟨by decide +kernel, rfl⟩
theorem kX6_wished_91 : Dk mtX6_wished 91 (.invokevirtual 56) 3 94 := ⟨by decide +kernel, rfl⟩
theorem kX6_wished_94 : Dk mtX6_wished 94 (.if_icmp .le 8) 3 97 := ⟨by decide +kernel, rfl⟩
theorem kX6_wished_97 : Dk mtX6_wished 97 (.iload 5) 2 99 := ⟨by decide +kernel, rfl⟩
theorem kX6_wished_99 : Dk mtX6_wished 99 (.goto 5) 3 102 := ⟨by decide +kernel, rfl⟩
theorem kX6_wished_102 : Dk mtX6_wished 102 (.iload 4) 2 104 := ⟨by decide +kernel, rfl⟩
theorem kX6_wished_104 : Dk mtX6_wished 104 (.istore 4) 2 106 := ⟨by decide +kernel, rfl⟩
theorem kX6_wished_106 : Dk mtX6_wished 106 (.iinc 5 1) 3 109 := ⟨by decide +kernel, rfl⟩
theorem kX6_wished_109 : Dk mtX6_wished 109 (.goto (-87)) 3 112 := ⟨by decide +kernel, rfl⟩
theorem kX6_wished_112 : Dk mtX6_wished 112 (.iload 4) 2 114 := ⟨by decide +kernel, rfl⟩
theorem kX6_wished_114 : Dk mtX6_wished 114 (.ireturn) 1 115 := ⟨by decide +kernel, rfl⟩
set_option maxHeartbeats 4000000 in
set_option maxRecDepth 100000 in
theorem ct_wished {l : Launch} {w : Wd} {sg : Sg} (hWr : Wr w) {mo : Nat} (a : Int32) (ha : vp_in a 8) (hc : 0 ≤ (sg (mo + 1) 4).toInt ∧ (sg (mo + 1) 4).toInt ≤ 6) (hl : ∀ n, n < tn (sg (mo + 1) 4) → ¬ gL (sg (mo + 1)) (nI n) 3 = 0) (hby : ∃ j, j < tn (sg (mo + 1) 4) ∧ gB (sg (mo + 1)) a 2 - 1 = nI j) : M l mtX6_wished w [vR (some (6, 0, mo)), vI a] sg (fI (F_wished (sg (mo + 1)) a) sg) := by
  refine M_of [some (vR (some (6, 0, mo))), some (vI a), none, none, none, none, none] rfl (Nat.le_of_ble_eq_true rfl) (by decide +kernel) ?_
  intro p_ e_ s_ m_ args_ below_ meth_ c_ hC hO
  refine V_aload_n hC kX6_wished_0 rfl ?_
  refine V_iload_n hC kX6_wished_1 rfl ?_
  refine V_iconst hC (2) kX6_wished_2 (by decide) ?_
  refine V_cV_fI hC (ct_ofBoat hWr a 2 ha (vp_lit rfl)) mkX6_ofBoat lmX6_53 kX6_wished_3 (Nat.le_of_ble_eq_true rfl) rfl rfl rfl (Nat.le_of_ble_eq_true rfl) ⟨(Nat.le_of_ble_eq_true rfl), (Nat.le_of_ble_eq_true rfl)⟩ ⟨rfl, rfl⟩ ⟨(Nat.le_of_ble_eq_true rfl), (Nat.le_of_ble_eq_true rfl)⟩ ?_
  refine V_iconst hC (1) kX6_wished_6 (by decide) ?_
  refine V_isub hC kX6_wished_7 ?_
  refine V_nameI (fun by1 e_by1 => ?_)
  refine V_istore_n hC [some _, some _, some _, none, none, none, none] kX6_wished_8 rfl (Nat.le_of_ble_eq_true rfl) ?_
  refine V_aload_n hC kX6_wished_9 rfl ?_
  refine V_iload_n hC kX6_wished_10 rfl ?_
  refine V_iconst hC (0) kX6_wished_11 (by decide) ?_
  refine V_cV_fI hC (ct_ofBoat hWr a 0 ha (vp_lit rfl)) mkX6_ofBoat lmX6_53 kX6_wished_12 (Nat.le_of_ble_eq_true rfl) rfl rfl rfl (Nat.le_of_ble_eq_true rfl) ⟨(Nat.le_of_ble_eq_true rfl), (Nat.le_of_ble_eq_true rfl)⟩ ⟨rfl, rfl⟩ ⟨(Nat.le_of_ble_eq_true rfl), (Nat.le_of_ble_eq_true rfl)⟩ ?_
  refine V_nameI (fun pl e_pl => ?_)
  refine V_istore_n hC [some _, some _, some _, some _, none, none, none] kX6_wished_15 rfl (Nat.le_of_ble_eq_true rfl) ?_
  refine V_iconst hC (-1) kX6_wished_16 (by decide) ?_
  refine V_istore hC [some _, some _, some _, some _, some _, none, none] kX6_wished_17 rfl (Nat.le_of_ble_eq_true rfl) ?_
  refine V_iconst hC (0) kX6_wished_19 (by decide) ?_
  refine V_istore hC [some _, some _, some _, some _, some _, some _, none] kX6_wished_20 rfl (Nat.le_of_ble_eq_true rfl) ?_
  refine V_loop (tn ((sg (mo + 1)) 4)) (fun i => [some (vR (some (6, 0, mo))), some (vI a), some (vI by1), some (vI pl), some (vI (F_wishedN (sg (mo + 1)) a i)), some (vI (nI i)), none]) (fun i => sg) rfl rfl ?_ (fun i hi ihi => ?_)
  · refine V_iload hC kX6_wished_22 rfl ?_
    refine V_aload_n hC kX6_wished_24 rfl ?_
    refine V_getR hC hWr 6 1 lfX6_7 kX6_wished_25 (Nat.le_of_ble_eq_true rfl) (Nat.le_of_ble_eq_true rfl) rfl ?_
    refine V_iconst hC (4) kX6_wished_28 (by decide) ?_
    refine V_iald hC 4 rfl kX6_wished_29 (vp_lit rfl) ?_
    refine V_icmp_ge hC 112 kX6_wished_30 (by decide) (fun h30 => ?_) (fun h30 => absurd h30 (not_not_intro (cnt_le hc.1)))
    refine V_iload hC kX6_wished_112 rfl ?_
    refine V_ireti hC rfl kX6_wished_114 ?_
    refine ⟨cI ?_, by with_reducible rfl⟩
    unfold F_wished
    with_reducible rfl
  · have hi6 := (cnt_in (n := 6) hc.1 hc.2).1
    have hbi : ¬ F_wishedN (sg (mo + 1)) a i = -1 → ∃ j, j < tn (sg (mo + 1) 4) ∧ F_wishedN (sg (mo + 1)) a i = nI j := fun z => by
      rcases F_wishedN_in (sg (mo + 1)) a i with h | ⟨j, h1, h2⟩
      · exact absurd h z
      · exact ⟨j, by omega, h2⟩
    obtain ⟨jy, hjy, ejy⟩ := hby
    refine V_iload hC kX6_wished_22 rfl ?_
    refine V_aload_n hC kX6_wished_24 rfl ?_
    refine V_getR hC hWr 6 1 lfX6_7 kX6_wished_25 (Nat.le_of_ble_eq_true rfl) (Nat.le_of_ble_eq_true rfl) rfl ?_
    refine V_iconst hC (4) kX6_wished_28 (by decide) ?_
    refine V_iald hC 4 rfl kX6_wished_29 (vp_lit rfl) ?_
    refine V_icmp_ge hC 112 kX6_wished_30 (by decide) (fun h30 => absurd h30 (cnt_lt hc.1 hi)) (fun h30 => ?_)
    refine V_join 67 (b01 (¬ nI i = by1 ∧ F_worth (sg (mo + 1)) by1 pl + (sg (mo + 1)) 0 ≤ F_worth (sg (mo + 1)) (nI i) pl)) ?_ (fun j67 => ?_)
    · refine V_nameI (fun can e_can => ?_)
      refine V_istore hC [some _, some _, some _, some _, some _, some _, some _] kX6_wished_67 rfl (Nat.le_of_ble_eq_true rfl) ?_
      refine V_join 104 (F_wishedN (sg (mo + 1)) a (i + 1)) ?_ (fun j104 => ?_)
      · refine V_istore hC [some _, some _, some _, some _, some _, some _, some _] kX6_wished_104 rfl (Nat.le_of_ble_eq_true rfl) ?_
        refine V_iinc hC (_ + 1) [some _, some _, some _, some _, some _, some _, some _] kX6_wished_106 rfl rfl rfl (Nat.le_of_ble_eq_true rfl) ?_
        refine V_goto hC 22 kX6_wished_109 (by decide) ?_
        refine V_drop 6 [_, _, _, _, _, _, none] rfl ?_
        refine V_eq ?_ rfl ihi
        simp only [nI_succ]
      · refine V_iload hC kX6_wished_69 rfl ?_
        refine V_if_eq hC 102 kX6_wished_71 (by decide) (fun h71 => ?_) (fun h71 => ?_)
        · refine V_iload hC kX6_wished_102 rfl ?_
          exact j104 _ ((by subst e_by1 e_pl; rw [F_wishedN, if_neg (fun z => (b0_of e_can h71) z.1)]))
        · refine V_iload hC kX6_wished_74 rfl ?_
          refine V_iconst hC (-1) kX6_wished_76 (by decide) ?_
          refine V_icmp_eq hC 97 kX6_wished_77 (by decide) (fun h77 => ?_) (fun h77 => ?_)
          · refine V_iload hC kX6_wished_97 rfl ?_
            refine V_goto hC 104 kX6_wished_99 (by decide) ?_
            exact j104 _ ((by subst e_by1 e_pl; rw [F_wishedN, if_pos ⟨b1_of e_can h71, Or.inl h77⟩]))
          · obtain ⟨jb, hjb, ejb⟩ := hbi h77
            refine V_aload_n hC kX6_wished_80 rfl ?_
            refine V_iload hC kX6_wished_81 rfl ?_
            refine V_iload_n hC kX6_wished_83 rfl ?_
            refine V_cV_fI hC (ct_worth hWr (nI i) pl (vp_in_nI (by omega) (by decide)) (fun _ => hl i hi)) mkX6_worth lmX6_56 kX6_wished_84 (Nat.le_of_ble_eq_true rfl) rfl rfl rfl (Nat.le_of_ble_eq_true rfl) ⟨(Nat.le_of_ble_eq_true rfl), (Nat.le_of_ble_eq_true rfl)⟩ ⟨rfl, rfl⟩ ⟨(Nat.le_of_ble_eq_true rfl), (Nat.le_of_ble_eq_true rfl)⟩ ?_
            refine V_aload_n hC kX6_wished_87 rfl ?_
            refine V_iload hC kX6_wished_88 rfl ?_
            refine V_iload_n hC kX6_wished_90 rfl ?_
            refine V_cV_fI hC (ct_worth hWr _ pl (by rw [ejb]; exact vp_in_nI (by omega) (by decide)) (fun _ => by rw [ejb]; exact hl jb hjb)) mkX6_worth lmX6_56 kX6_wished_91 (Nat.le_of_ble_eq_true rfl) rfl rfl rfl (Nat.le_of_ble_eq_true rfl) ⟨(Nat.le_of_ble_eq_true rfl), (Nat.le_of_ble_eq_true rfl)⟩ ⟨rfl, rfl⟩ ⟨(Nat.le_of_ble_eq_true rfl), (Nat.le_of_ble_eq_true rfl)⟩ ?_
            refine V_icmp_le hC 102 kX6_wished_94 (by decide) (fun h94 => ?_) (fun h94 => ?_)
            · refine V_iload hC kX6_wished_102 rfl ?_
              exact j104 _ ((by subst e_by1 e_pl; rw [F_wishedN, if_neg (fun z => z.2.elim h77 (fun z => absurd z (Int32.not_lt.mpr h94)))]))
            · refine V_iload hC kX6_wished_97 rfl ?_
              refine V_goto hC 104 kX6_wished_99 (by decide) ?_
              exact j104 _ ((by subst e_by1 e_pl; rw [F_wishedN, if_pos ⟨b1_of e_can h71, Or.inr (Int32.not_le.mp h94)⟩]))
    · refine V_iload hC kX6_wished_33 rfl ?_
      refine V_iload_n hC kX6_wished_35 rfl ?_
      refine V_icmp_eq hC 66 kX6_wished_36 (by decide) (fun h36 => ?_) (fun h36 => ?_)
      · refine V_iconst hC (0) kX6_wished_66 (by decide) ?_
        exact j67 _ ((b01_f (fun z => z.1 h36)).symm)
      · refine V_aload_n hC kX6_wished_39 rfl ?_
        refine V_iload hC kX6_wished_40 rfl ?_
        refine V_iload_n hC kX6_wished_42 rfl ?_
        refine V_cV_fI hC (ct_worth hWr (nI i) pl (vp_in_nI (by omega) (by decide)) (fun _ => hl i hi)) mkX6_worth lmX6_56 kX6_wished_43 (Nat.le_of_ble_eq_true rfl) rfl rfl rfl (Nat.le_of_ble_eq_true rfl) ⟨(Nat.le_of_ble_eq_true rfl), (Nat.le_of_ble_eq_true rfl)⟩ ⟨rfl, rfl⟩ ⟨(Nat.le_of_ble_eq_true rfl), (Nat.le_of_ble_eq_true rfl)⟩ ?_
        refine V_aload_n hC kX6_wished_46 rfl ?_
        refine V_iload_n hC kX6_wished_47 rfl ?_
        refine V_iload_n hC kX6_wished_48 rfl ?_
        refine V_cV_fI hC (ct_worth hWr by1 pl (by rw [e_by1, ejy]; exact vp_in_nI (by omega) (by decide)) (fun _ => by rw [e_by1, ejy]; exact hl jy hjy)) mkX6_worth lmX6_56 kX6_wished_49 (Nat.le_of_ble_eq_true rfl) rfl rfl rfl (Nat.le_of_ble_eq_true rfl) ⟨(Nat.le_of_ble_eq_true rfl), (Nat.le_of_ble_eq_true rfl)⟩ ⟨rfl, rfl⟩ ⟨(Nat.le_of_ble_eq_true rfl), (Nat.le_of_ble_eq_true rfl)⟩ ?_
        refine V_aload_n hC kX6_wished_52 rfl ?_
        refine V_getR hC hWr 6 1 lfX6_7 kX6_wished_53 (Nat.le_of_ble_eq_true rfl) (Nat.le_of_ble_eq_true rfl) rfl ?_
        refine V_iconst hC (0) kX6_wished_56 (by decide) ?_
        refine V_iald hC 0 rfl kX6_wished_57 (vp_lit rfl) ?_
        refine V_iadd hC kX6_wished_58 ?_
        refine V_icmp_lt hC 66 kX6_wished_59 (by decide) (fun h59 => ?_) (fun h59 => ?_)
        · refine V_iconst hC (0) kX6_wished_66 (by decide) ?_
          exact j67 _ ((b01_f (fun z => absurd z.2 (Int32.not_le.mpr h59))).symm)
        · refine V_iconst hC (1) kX6_wished_62 (by decide) ?_
          refine V_goto hC 67 kX6_wished_63 (by decide) ?_
          exact j67 _ ((b01_t ⟨h36, Int32.not_lt.mp h59⟩).symm)
def mtX6_hands : Mt := (yX6_hands, cX6_hands, 5, none, 1, 23, 0, 0)
theorem kX6_hands_0 : Dk mtX6_hands 0 (.aload_n 0) 1 1 := ⟨by decide +kernel, rfl⟩
theorem kX6_hands_1 : Dk mtX6_hands 1 (.iload_n 1) 1 2 := ⟨by decide +kernel, rfl⟩
theorem kX6_hands_2 : Dk mtX6_hands 2 (.iconst 2) 1 3 := ⟨by decide +kernel, rfl⟩
theorem kX6_hands_3 : Dk mtX6_hands 3 (.invokevirtual 53) 3 6 := ⟨by decide +kernel, rfl⟩
theorem kX6_hands_6 : Dk mtX6_hands 6 (.istore_n 3) 1 7 := ⟨by decide +kernel, rfl⟩
theorem kX6_hands_7 : Dk mtX6_hands 7 (.aload_n 0) 1 8 := ⟨by decide +kernel, rfl⟩
theorem kX6_hands_8 : Dk mtX6_hands 8 (.iload_n 1) 1 9 := ⟨by decide +kernel, rfl⟩
theorem kX6_hands_9 : Dk mtX6_hands 9 (.bipush 6) 2 11 := ⟨by decide +kernel, rfl⟩
theorem kX6_hands_11 : Dk mtX6_hands 11 (.invokevirtual 53) 3 14 := ⟨by decide +kernel, rfl⟩
theorem kX6_hands_14 : Dk mtX6_hands 14 (.iload_n 2) 1 15 := ⟨by decide +kernel, rfl⟩
theorem kX6_hands_15 : Dk mtX6_hands 15 (.iconst 1) 1 16 := ⟨by decide +kernel, rfl⟩
theorem kX6_hands_16 : Dk mtX6_hands 16 (.iadd) 1 17 := ⟨by decide +kernel, rfl⟩
theorem kX6_hands_17 : Dk mtX6_hands 17 (.if_icmp .ne 31) 3 20 := ⟨by decide +kernel, rfl⟩
theorem kX6_hands_20 : Dk mtX6_hands 20 (.aload_n 0) 1 21 := ⟨by decide +kernel, rfl⟩
theorem kX6_hands_21 : Dk mtX6_hands 21 (.getfield 7) 3 24 := ⟨by decide +kernel, rfl⟩
theorem kX6_hands_24 : Dk mtX6_hands 24 (.bipush 6) 2 26 := ⟨by decide +kernel, rfl⟩
theorem kX6_hands_26 : Dk mtX6_hands 26 (.iaload) 1 27 := ⟨by decide +kernel, rfl⟩
theorem kX6_hands_27 : Dk mtX6_hands 27 (.aload_n 0) 1 28 := ⟨by decide +kernel, rfl⟩
theorem kX6_hands_28 : Dk mtX6_hands 28 (.iload_n 1) 1 29 := ⟨by decide +kernel, rfl⟩
theorem kX6_hands_29 : Dk mtX6_hands 29 (.bipush 9) 2 31 := ⟨by decide +kernel, rfl⟩
theorem kX6_hands_31 : Dk mtX6_hands 31 (.invokevirtual 53) 3 34 := ⟨by decide +kernel, rfl⟩
theorem kX6_hands_34 : Dk mtX6_hands 34 (.isub) 1 35 := ⟨by decide +kernel, rfl⟩
theorem kX6_hands_35 : Dk mtX6_hands 35 (.aload_n 0) 1 36 := ⟨by decide +kernel, rfl⟩
theorem kX6_hands_36 : Dk mtX6_hands 36 (.getfield 7) 3 39 := ⟨by decide +kernel, rfl⟩
theorem kX6_hands_39 : Dk mtX6_hands 39 (.iconst 3) 1 40 := ⟨by decide +kernel, rfl⟩
theorem kX6_hands_40 : Dk mtX6_hands 40 (.iaload) 1 41 := ⟨by decide +kernel, rfl⟩
theorem kX6_hands_41 : Dk mtX6_hands 41 (.if_icmp .gt 7) 3 44 := ⟨by decide +kernel, rfl⟩
theorem kX6_hands_44 : Dk mtX6_hands 44 (.iconst 1) 1 45 := ⟨by decide +kernel, rfl⟩
theorem kX6_hands_45 : Dk mtX6_hands 45 (.goto 4) 3 48 := ⟨by decide +kernel, rfl⟩
theorem kX6_hands_48 : Dk mtX6_hands 48 (.iconst 0) 1 49 := ⟨by decide +kernel, rfl⟩
theorem kX6_hands_49 : Dk mtX6_hands 49 (.istore 4) 2 51 := ⟨by decide +kernel, rfl⟩
theorem kX6_hands_51 : Dk mtX6_hands 51 (.aload_n 0) 1 52 := ⟨by decide +kernel, rfl⟩
theorem kX6_hands_52 : Dk mtX6_hands 52 (.iload_n 1) 1 53 := ⟨by decide +kernel, rfl⟩
theorem kX6_hands_53 : Dk mtX6_hands 53 (.iconst 2) 1 54 := ⟨by decide +kernel, rfl⟩
theorem kX6_hands_54 : Dk mtX6_hands 54 (.iload_n 2) 1 55 := ⟨by decide +kernel, rfl⟩
theorem kX6_hands_55 : Dk mtX6_hands 55 (.iconst 1) 1 56 := ⟨by decide +kernel, rfl⟩
theorem kX6_hands_56 : Dk mtX6_hands 56 (.iadd) 1 57 := ⟨by decide +kernel, rfl⟩
theorem kX6_hands_57 : Dk mtX6_hands 57 (.invokevirtual 63) 3 60 := ⟨by decide +kernel, rfl⟩
theorem kX6_hands_60 : Dk mtX6_hands 60 (.aload_n 0) 1 61 := ⟨by decide +kernel, rfl⟩
theorem kX6_hands_61 : Dk mtX6_hands 61 (.iload_n 1) 1 62 := ⟨by decide +kernel, rfl⟩
theorem kX6_hands_62 : Dk mtX6_hands 62 (.iconst 4) 1 63 := ⟨by decide +kernel, rfl⟩
theorem kX6_hands_63 : Dk mtX6_hands 63 (.iconst 0) 1 64 := ⟨by decide +kernel, rfl⟩
theorem kX6_hands_64 : Dk mtX6_hands 64 (.invokevirtual 63) 3 67 := ⟨by decide +kernel, rfl⟩
theorem kX6_hands_67 : Dk mtX6_hands 67 (.aload_n 0) 1 68 := ⟨by decide +kernel, rfl⟩
theorem kX6_hands_68 : Dk mtX6_hands 68 (.iload_n 1) 1 69 := ⟨by decide +kernel, rfl⟩
theorem kX6_hands_69 : Dk mtX6_hands 69 (.iconst 5) 1 70 := ⟨by decide +kernel, rfl⟩
theorem kX6_hands_70 : Dk mtX6_hands 70 (.iconst 0) 1 71 := ⟨by decide +kernel, rfl⟩
theorem kX6_hands_71 : Dk mtX6_hands 71 (.invokevirtual 63) 3 74 := ⟨by decide +kernel, rfl⟩
theorem kX6_hands_74 : Dk mtX6_hands 74 (.aload_n 0) 1 75 := ⟨by decide +kernel, rfl⟩
theorem kX6_hands_75 : Dk mtX6_hands 75 (.iload_n 1) 1 76 := ⟨by decide +kernel, rfl⟩
theorem kX6_hands_76 : Dk mtX6_hands 76 (.bipush 6) 2 78 := ⟨by decide +kernel, rfl⟩
theorem kX6_hands_78 : Dk mtX6_hands 78 (.iload_n 3) 1 79 := ⟨by decide +kernel, rfl⟩
theorem kX6_hands_79 : Dk mtX6_hands 79 (.invokevirtual 63) 3 82 := ⟨by decide +kernel, rfl⟩
theorem kX6_hands_82 : Dk mtX6_hands 82 (.aload_n 0) 1 83 := ⟨by decide +kernel, rfl⟩
theorem kX6_hands_83 : Dk mtX6_hands 83 (.iload_n 1) 1 84 := ⟨by decide +kernel, rfl⟩
theorem kX6_hands_84 : Dk mtX6_hands 84 (.bipush 9) 2 86 := ⟨by decide +kernel, rfl⟩
theorem kX6_hands_86 : Dk mtX6_hands 86 (.aload_n 0) 1 87 := ⟨by decide +kernel, rfl⟩
theorem kX6_hands_87 : Dk mtX6_hands 87 (.getfield 7) 3 90 := ⟨by decide +kernel, rfl⟩
theorem kX6_hands_90 : Dk mtX6_hands 90 (.bipush 6) 2 92 := ⟨by decide +kernel, rfl⟩
theorem kX6_hands_92 : Dk mtX6_hands 92 (.iaload) 1 93 := ⟨by decide +kernel, rfl⟩
theorem kX6_hands_93 : Dk mtX6_hands 93 (.invokevirtual 63) 3 96 := ⟨by decide +kernel, rfl⟩
theorem kX6_hands_96 : Dk mtX6_hands 96 (.aload_n 0) 1 97 := ⟨by decide +kernel, rfl⟩
theorem kX6_hands_97 : Dk mtX6_hands 97 (.iload_n 1) 1 98 := ⟨by decide +kernel, rfl⟩
theorem kX6_hands_98 : Dk mtX6_hands 98 (.bipush 7) 2 100 := ⟨by decide +kernel, rfl⟩
theorem kX6_hands_100 : Dk mtX6_hands 100 (.aload_n 0) 1 101 := ⟨by decide +kernel, rfl⟩
theorem kX6_hands_101 : Dk mtX6_hands 101 (.iload_n 1) 1 102 := ⟨by decide +kernel, rfl⟩
theorem kX6_hands_102 : Dk mtX6_hands 102 (.bipush 7) 2 104 := ⟨by decide +kernel, rfl⟩
theorem kX6_hands_104 : Dk mtX6_hands 104 (.invokevirtual 53) 3 107 := ⟨by decide +kernel, rfl⟩
theorem kX6_hands_107 : Dk mtX6_hands 107 (.iconst 1) 1 108 := ⟨by decide +kernel, rfl⟩
theorem kX6_hands_108 : Dk mtX6_hands 108 (.iadd) 1 109 := ⟨by decide +kernel, rfl⟩
theorem kX6_hands_109 : Dk mtX6_hands 109 (.invokevirtual 63) 3 112 := ⟨by decide +kernel, rfl⟩
theorem kX6_hands_112 : Dk mtX6_hands 112 (.aload_n 0) 1 113 := ⟨by decide +kernel, rfl⟩
theorem kX6_hands_113 : Dk mtX6_hands 113 (.iload_n 1) 1 114 := ⟨by decide +kernel, rfl⟩
theorem kX6_hands_114 : Dk mtX6_hands 114 (.bipush 8) 2 116 := ⟨by decide +kernel, rfl⟩
theorem kX6_hands_116 : Dk mtX6_hands 116 (.aload_n 0) 1 117 := ⟨by decide +kernel, rfl⟩
theorem kX6_hands_117 : Dk mtX6_hands 117 (.iload_n 1) 1 118 := ⟨by decide +kernel, rfl⟩
theorem kX6_hands_118 : Dk mtX6_hands 118 (.bipush 8) 2 120 := ⟨by decide +kernel, rfl⟩
theorem kX6_hands_120 : Dk mtX6_hands 120 (.invokevirtual 53) 3 123 := ⟨by decide +kernel, rfl⟩
theorem kX6_hands_123 : Dk mtX6_hands 123 (.iload 4) 2 125 := ⟨by decide +kernel, rfl⟩
theorem kX6_hands_125 : Dk mtX6_hands 125 (.ifCond .eq 7) 3 128 := ⟨by decide +kernel, rfl⟩
theorem kX6_hands_128 : Dk mtX6_hands 128 (.iconst 1) 1 129 := ⟨by decide +kernel, rfl⟩
theorem kX6_hands_129 : Dk mtX6_hands 129 (.goto 4) 3 132 := ⟨by decide +kernel, rfl⟩
theorem kX6_hands_132 : Dk mtX6_hands 132 (.iconst 0) 1 133 := ⟨by decide +kernel, rfl⟩
theorem kX6_hands_133 : Dk mtX6_hands 133 (.iadd) 1 134 := ⟨by decide +kernel, rfl⟩
theorem kX6_hands_134 : Dk mtX6_hands 134 (.invokevirtual 63) 3 137 := ⟨by decide +kernel, rfl⟩
theorem kX6_hands_137 : Dk mtX6_hands 137 (.aload_n 0) 1 138 := ⟨by decide +kernel, rfl⟩
theorem kX6_hands_138 : Dk mtX6_hands 138 (.getfield 7) 3 141 := ⟨by decide +kernel, rfl⟩
theorem kX6_hands_141 : Dk mtX6_hands 141 (.bipush 12) 2 143 := ⟨by decide +kernel, rfl⟩
theorem kX6_hands_143 : Dk mtX6_hands 143 (.bipush 8) 2 145 := ⟨by decide +kernel, rfl⟩
theorem kX6_hands_145 : Dk mtX6_hands 145 (.iload_n 2) 1 146 := ⟨by decide +kernel, rfl⟩
theorem kX6_hands_146 : Dk mtX6_hands 146 (.imul) 1 147 := ⟨by decide +kernel, rfl⟩
theorem kX6_hands_147 : Dk mtX6_hands 147 (.iadd) 1 148 := ⟨by decide +kernel, rfl⟩
theorem kX6_hands_148 : Dk mtX6_hands 148 (.bipush 7) 2 150 := ⟨by decide +kernel, rfl⟩
theorem kX6_hands_150 : Dk mtX6_hands 150 (.iadd) 1 151 := ⟨by decide +kernel, rfl⟩
theorem kX6_hands_151 : Dk mtX6_hands 151 (.dup2) 1 152 := ⟨by decide +kernel, rfl⟩
theorem kX6_hands_152 : Dk mtX6_hands 152 (.iaload) 1 153 := ⟨by decide +kernel, rfl⟩
theorem kX6_hands_153 : Dk mtX6_hands 153 (.iconst 1) 1 154 := ⟨by decide +kernel, rfl⟩
theorem kX6_hands_154 : Dk mtX6_hands 154 (.iadd) 1 155 := ⟨by decide +kernel, rfl⟩
theorem kX6_hands_155 : Dk mtX6_hands 155 (.iastore) 1 156 := ⟨by decide +kernel, rfl⟩
theorem kX6_hands_156 : Dk mtX6_hands 156 (.aload_n 0) 1 157 := ⟨by decide +kernel, rfl⟩
theorem kX6_hands_157 : Dk mtX6_hands 157 (.getfield 7) 3 160 := ⟨by decide +kernel, rfl⟩
theorem kX6_hands_160 : Dk mtX6_hands 160 (.bipush 7) 2 162 := ⟨by decide +kernel, rfl⟩
theorem kX6_hands_162 : Dk mtX6_hands 162 (.dup2) 1 163 := ⟨by decide +kernel, rfl⟩
theorem kX6_hands_163 : Dk mtX6_hands 163 (.iaload) 1 164 := ⟨by decide +kernel, rfl⟩
theorem kX6_hands_164 : Dk mtX6_hands 164 (.iconst 1) 1 165 := ⟨by decide +kernel, rfl⟩
theorem kX6_hands_165 : Dk mtX6_hands 165 (.iadd) 1 166 := ⟨by decide +kernel, rfl⟩
theorem kX6_hands_166 : Dk mtX6_hands 166 (.iastore) 1 167 := ⟨by decide +kernel, rfl⟩
theorem kX6_hands_167 : Dk mtX6_hands 167 (.aload_n 0) 1 168 := ⟨by decide +kernel, rfl⟩
theorem kX6_hands_168 : Dk mtX6_hands 168 (.getfield 7) 3 171 := ⟨by decide +kernel, rfl⟩
theorem kX6_hands_171 : Dk mtX6_hands 171 (.bipush 8) 2 173 := ⟨by decide +kernel, rfl⟩
theorem kX6_hands_173 : Dk mtX6_hands 173 (.dup2) 1 174 := ⟨by decide +kernel, rfl⟩
theorem kX6_hands_174 : Dk mtX6_hands 174 (.iaload) 1 175 := ⟨by decide +kernel, rfl⟩
theorem kX6_hands_175 : Dk mtX6_hands 175 (.iload 4) 2 177 := ⟨by decide +kernel, rfl⟩
theorem kX6_hands_177 : Dk mtX6_hands 177 (.ifCond .eq 7) 3 180 := ⟨by decide +kernel, rfl⟩
theorem kX6_hands_180 : Dk mtX6_hands 180 (.iconst 1) 1 181 := ⟨by decide +kernel, rfl⟩
theorem kX6_hands_181 : Dk mtX6_hands 181 (.goto 4) 3 184 := ⟨by decide +kernel, rfl⟩
theorem kX6_hands_184 : Dk mtX6_hands 184 (.iconst 0) 1 185 := ⟨by decide +kernel, rfl⟩
theorem kX6_hands_185 : Dk mtX6_hands 185 (.iadd) 1 186 := ⟨by decide +kernel, rfl⟩
theorem kX6_hands_186 : Dk mtX6_hands 186 (.iastore) 1 187 := ⟨by decide +kernel, rfl⟩
theorem kX6_hands_187 : Dk mtX6_hands 187 (.return_) 1 188 := ⟨by decide +kernel, rfl⟩
set_option maxHeartbeats 4000000 in
set_option maxRecDepth 100000 in
theorem ct_hands {l : Launch} {w : Wd} {sg : Sg} (hWr : Wr w) {mo : Nat} (a to : Int32) (ha : vp_in a 8) (ht : vp_in to 6) : M l mtX6_hands w [vR (some (6, 0, mo)), vI a, vI to] sg (fV0 (upr sg (mo + 1) (F_hands (sg (mo + 1)) a to))) := by
  refine M_of [some (vR (some (6, 0, mo))), some (vI a), some (vI to), none, none] rfl (Nat.le_of_ble_eq_true rfl) (by decide +kernel) ?_
  intro p_ e_ s_ m_ args_ below_ meth_ c_ hC hO
  refine V_aload_n hC kX6_hands_0 rfl ?_
  refine V_iload_n hC kX6_hands_1 rfl ?_
  refine V_iconst hC (2) kX6_hands_2 (by decide) ?_
  refine V_cV_fI hC (ct_ofBoat hWr a 2 ha (vp_lit rfl)) mkX6_ofBoat lmX6_53 kX6_hands_3 (Nat.le_of_ble_eq_true rfl) rfl rfl rfl (Nat.le_of_ble_eq_true rfl) ⟨(Nat.le_of_ble_eq_true rfl), (Nat.le_of_ble_eq_true rfl)⟩ ⟨rfl, rfl⟩ ⟨(Nat.le_of_ble_eq_true rfl), (Nat.le_of_ble_eq_true rfl)⟩ ?_
  refine V_nameI (fun by1 e_by1 => ?_)
  refine V_istore_n hC [some _, some _, some _, some _, none] kX6_hands_6 rfl (Nat.le_of_ble_eq_true rfl) ?_
  refine V_join 49 (F_isBack (sg (mo + 1)) a to) ?_ (fun j49 => ?_)
  · refine V_nameI (fun bk e_bk => ?_)
    refine V_istore hC [some _, some _, some _, some _, some _] kX6_hands_49 rfl (Nat.le_of_ble_eq_true rfl) ?_
    refine V_aload_n hC kX6_hands_51 rfl ?_
    refine V_iload_n hC kX6_hands_52 rfl ?_
    refine V_iconst hC (2) kX6_hands_53 (by decide) ?_
    refine V_iload_n hC kX6_hands_54 rfl ?_
    refine V_iconst hC (1) kX6_hands_55 (by decide) ?_
    refine V_iadd hC kX6_hands_56 ?_
    refine V_cV_fV hC (ct_layBoat hWr a 2 _ ha (vp_lit rfl)) mkX6_layBoat lmX6_63 kX6_hands_57 (Nat.le_of_ble_eq_true rfl) rfl rfl rfl (Nat.le_of_ble_eq_true rfl) ⟨(Nat.le_of_ble_eq_true rfl), (Nat.le_of_ble_eq_true rfl)⟩ ⟨rfl, rfl⟩ ⟨(Nat.le_of_ble_eq_true rfl), (Nat.le_of_ble_eq_true rfl)⟩ ?_
    refine V_aload_n hC kX6_hands_60 rfl ?_
    refine V_iload_n hC kX6_hands_61 rfl ?_
    refine V_iconst hC (4) kX6_hands_62 (by decide) ?_
    refine V_iconst hC (0) kX6_hands_63 (by decide) ?_
    refine V_cV_fV hC (ct_layBoat hWr a 4 _ ha (vp_lit rfl)) mkX6_layBoat lmX6_63 kX6_hands_64 (Nat.le_of_ble_eq_true rfl) rfl rfl rfl (Nat.le_of_ble_eq_true rfl) ⟨(Nat.le_of_ble_eq_true rfl), (Nat.le_of_ble_eq_true rfl)⟩ ⟨rfl, rfl⟩ ⟨(Nat.le_of_ble_eq_true rfl), (Nat.le_of_ble_eq_true rfl)⟩ ?_
    refine V_aload_n hC kX6_hands_67 rfl ?_
    refine V_iload_n hC kX6_hands_68 rfl ?_
    refine V_iconst hC (5) kX6_hands_69 (by decide) ?_
    refine V_iconst hC (0) kX6_hands_70 (by decide) ?_
    refine V_cV_fV hC (ct_layBoat hWr a 5 _ ha (vp_lit rfl)) mkX6_layBoat lmX6_63 kX6_hands_71 (Nat.le_of_ble_eq_true rfl) rfl rfl rfl (Nat.le_of_ble_eq_true rfl) ⟨(Nat.le_of_ble_eq_true rfl), (Nat.le_of_ble_eq_true rfl)⟩ ⟨rfl, rfl⟩ ⟨(Nat.le_of_ble_eq_true rfl), (Nat.le_of_ble_eq_true rfl)⟩ ?_
    refine V_aload_n hC kX6_hands_74 rfl ?_
    refine V_iload_n hC kX6_hands_75 rfl ?_
    refine V_bipush hC (6) kX6_hands_76 (by decide) ?_
    refine V_iload_n hC kX6_hands_78 rfl ?_
    refine V_cV_fV hC (ct_layBoat hWr a 6 _ ha (vp_lit rfl)) mkX6_layBoat lmX6_63 kX6_hands_79 (Nat.le_of_ble_eq_true rfl) rfl rfl rfl (Nat.le_of_ble_eq_true rfl) ⟨(Nat.le_of_ble_eq_true rfl), (Nat.le_of_ble_eq_true rfl)⟩ ⟨rfl, rfl⟩ ⟨(Nat.le_of_ble_eq_true rfl), (Nat.le_of_ble_eq_true rfl)⟩ ?_
    refine V_aload_n hC kX6_hands_82 rfl ?_
    refine V_iload_n hC kX6_hands_83 rfl ?_
    refine V_bipush hC (9) kX6_hands_84 (by decide) ?_
    refine V_aload_n hC kX6_hands_86 rfl ?_
    refine V_getR hC hWr 6 1 lfX6_7 kX6_hands_87 (Nat.le_of_ble_eq_true rfl) (Nat.le_of_ble_eq_true rfl) rfl ?_
    refine V_bipush hC (6) kX6_hands_90 (by decide) ?_
    refine V_iald hC 6 rfl kX6_hands_92 (vp_lit rfl) ?_
    refine V_cV_fV hC (ct_layBoat hWr a 9 _ ha (vp_lit rfl)) mkX6_layBoat lmX6_63 kX6_hands_93 (Nat.le_of_ble_eq_true rfl) rfl rfl rfl (Nat.le_of_ble_eq_true rfl) ⟨(Nat.le_of_ble_eq_true rfl), (Nat.le_of_ble_eq_true rfl)⟩ ⟨rfl, rfl⟩ ⟨(Nat.le_of_ble_eq_true rfl), (Nat.le_of_ble_eq_true rfl)⟩ ?_
    refine V_aload_n hC kX6_hands_96 rfl ?_
    refine V_iload_n hC kX6_hands_97 rfl ?_
    refine V_bipush hC (7) kX6_hands_98 (by decide) ?_
    refine V_aload_n hC kX6_hands_100 rfl ?_
    refine V_iload_n hC kX6_hands_101 rfl ?_
    refine V_bipush hC (7) kX6_hands_102 (by decide) ?_
    refine V_cV_fI hC (ct_ofBoat hWr a 7 ha (vp_lit rfl)) mkX6_ofBoat lmX6_53 kX6_hands_104 (Nat.le_of_ble_eq_true rfl) rfl rfl rfl (Nat.le_of_ble_eq_true rfl) ⟨(Nat.le_of_ble_eq_true rfl), (Nat.le_of_ble_eq_true rfl)⟩ ⟨rfl, rfl⟩ ⟨(Nat.le_of_ble_eq_true rfl), (Nat.le_of_ble_eq_true rfl)⟩ ?_
    refine V_iconst hC (1) kX6_hands_107 (by decide) ?_
    refine V_iadd hC kX6_hands_108 ?_
    refine V_cV_fV hC (ct_layBoat hWr a 7 _ ha (vp_lit rfl)) mkX6_layBoat lmX6_63 kX6_hands_109 (Nat.le_of_ble_eq_true rfl) rfl rfl rfl (Nat.le_of_ble_eq_true rfl) ⟨(Nat.le_of_ble_eq_true rfl), (Nat.le_of_ble_eq_true rfl)⟩ ⟨rfl, rfl⟩ ⟨(Nat.le_of_ble_eq_true rfl), (Nat.le_of_ble_eq_true rfl)⟩ ?_
    refine V_aload_n hC kX6_hands_112 rfl ?_
    refine V_iload_n hC kX6_hands_113 rfl ?_
    refine V_bipush hC (8) kX6_hands_114 (by decide) ?_
    refine V_aload_n hC kX6_hands_116 rfl ?_
    refine V_iload_n hC kX6_hands_117 rfl ?_
    refine V_bipush hC (8) kX6_hands_118 (by decide) ?_
    refine V_cV_fI hC (ct_ofBoat hWr a 8 ha (vp_lit rfl)) mkX6_ofBoat lmX6_53 kX6_hands_120 (Nat.le_of_ble_eq_true rfl) rfl rfl rfl (Nat.le_of_ble_eq_true rfl) ⟨(Nat.le_of_ble_eq_true rfl), (Nat.le_of_ble_eq_true rfl)⟩ ⟨rfl, rfl⟩ ⟨(Nat.le_of_ble_eq_true rfl), (Nat.le_of_ble_eq_true rfl)⟩ ?_
    refine V_join 133 (bk) ?_ (fun j133 => ?_)
    · refine V_iadd hC kX6_hands_133 ?_
      refine V_cV_fV hC (ct_layBoat hWr a 8 _ ha (vp_lit rfl)) mkX6_layBoat lmX6_63 kX6_hands_134 (Nat.le_of_ble_eq_true rfl) rfl rfl rfl (Nat.le_of_ble_eq_true rfl) ⟨(Nat.le_of_ble_eq_true rfl), (Nat.le_of_ble_eq_true rfl)⟩ ⟨rfl, rfl⟩ ⟨(Nat.le_of_ble_eq_true rfl), (Nat.le_of_ble_eq_true rfl)⟩ ?_
      refine V_aload_n hC kX6_hands_137 rfl ?_
      refine V_getR hC hWr 6 1 lfX6_7 kX6_hands_138 (Nat.le_of_ble_eq_true rfl) (Nat.le_of_ble_eq_true rfl) rfl ?_
      refine V_bipush hC (12) kX6_hands_141 (by decide) ?_
      refine V_bipush hC (8) kX6_hands_143 (by decide) ?_
      refine V_iload_n hC kX6_hands_145 rfl ?_
      refine V_imul hC kX6_hands_146 ?_
      refine V_iadd hC kX6_hands_147 ?_
      refine V_bipush hC (7) kX6_hands_148 (by decide) ?_
      refine V_iadd hC kX6_hands_150 ?_
      refine V_dup2 hC kX6_hands_151 rfl rfl ?_
      refine V_iald hC _ rfl kX6_hands_152 (inL ht (vp_lit rfl)) ?_
      refine V_iconst hC (1) kX6_hands_153 (by decide) ?_
      refine V_iadd hC kX6_hands_154 ?_
      refine V_iast hC _ rfl kX6_hands_155 (inL ht (vp_lit rfl)) ?_
      refine V_aload_n hC kX6_hands_156 rfl ?_
      refine V_getR hC hWr 6 1 lfX6_7 kX6_hands_157 (Nat.le_of_ble_eq_true rfl) (Nat.le_of_ble_eq_true rfl) rfl ?_
      refine V_bipush hC (7) kX6_hands_160 (by decide) ?_
      refine V_dup2 hC kX6_hands_162 rfl rfl ?_
      refine V_iald hC 7 rfl kX6_hands_163 (vp_lit rfl) ?_
      refine V_iconst hC (1) kX6_hands_164 (by decide) ?_
      refine V_iadd hC kX6_hands_165 ?_
      refine V_iast hC 7 rfl kX6_hands_166 (vp_lit rfl) ?_
      refine V_aload_n hC kX6_hands_167 rfl ?_
      refine V_getR hC hWr 6 1 lfX6_7 kX6_hands_168 (Nat.le_of_ble_eq_true rfl) (Nat.le_of_ble_eq_true rfl) rfl ?_
      refine V_bipush hC (8) kX6_hands_171 (by decide) ?_
      refine V_dup2 hC kX6_hands_173 rfl rfl ?_
      refine V_iald hC 8 rfl kX6_hands_174 (vp_lit rfl) ?_
      refine V_join 185 (bk) ?_ (fun j185 => ?_)
      · refine V_iadd hC kX6_hands_185 ?_
        refine V_iast hC 8 rfl kX6_hands_186 (vp_lit rfl) ?_
        refine V_vret hC rfl kX6_hands_187 ?_
        refine ⟨by with_reducible rfl, ?_⟩
        subst e_bk e_by1
        unfold F_hands F_handsB F_handsA F_inc
        simp only [upr_upr, upr_at, ups]
        unfold pB gB tn
        with_reducible rfl
      · refine V_iload hC kX6_hands_175 rfl ?_
        refine V_if_eq hC 184 kX6_hands_177 (by decide) (fun h177 => ?_) (fun h177 => ?_)
        · refine V_iconst hC (0) kX6_hands_184 (by decide) ?_
          exact j185 _ (h177.symm)
        · refine V_iconst hC (1) kX6_hands_180 (by decide) ?_
          refine V_goto hC 185 kX6_hands_181 (by decide) ?_
          exact j185 _ (b01_1 e_bk h177)
    · refine V_iload hC kX6_hands_123 rfl ?_
      refine V_if_eq hC 132 kX6_hands_125 (by decide) (fun h125 => ?_) (fun h125 => ?_)
      · refine V_iconst hC (0) kX6_hands_132 (by decide) ?_
        exact j133 _ (h125.symm)
      · refine V_iconst hC (1) kX6_hands_128 (by decide) ?_
        refine V_goto hC 133 kX6_hands_129 (by decide) ?_
        exact j133 _ (b01_1 e_bk h125)
  · refine V_aload_n hC kX6_hands_7 rfl ?_
    refine V_iload_n hC kX6_hands_8 rfl ?_
    refine V_bipush hC (6) kX6_hands_9 (by decide) ?_
    refine V_cV_fI hC (ct_ofBoat hWr a 6 ha (vp_lit rfl)) mkX6_ofBoat lmX6_53 kX6_hands_11 (Nat.le_of_ble_eq_true rfl) rfl rfl rfl (Nat.le_of_ble_eq_true rfl) ⟨(Nat.le_of_ble_eq_true rfl), (Nat.le_of_ble_eq_true rfl)⟩ ⟨rfl, rfl⟩ ⟨(Nat.le_of_ble_eq_true rfl), (Nat.le_of_ble_eq_true rfl)⟩ ?_
    refine V_iload_n hC kX6_hands_14 rfl ?_
    refine V_iconst hC (1) kX6_hands_15 (by decide) ?_
    refine V_iadd hC kX6_hands_16 ?_
    refine V_icmp_ne hC 48 kX6_hands_17 (by decide) (fun h17 => ?_) (fun h17 => ?_)
    · refine V_iconst hC (0) kX6_hands_48 (by decide) ?_
      exact j49 _ ((b01_f (fun z => h17 z.1)).symm)
    · refine V_aload_n hC kX6_hands_20 rfl ?_
      refine V_getR hC hWr 6 1 lfX6_7 kX6_hands_21 (Nat.le_of_ble_eq_true rfl) (Nat.le_of_ble_eq_true rfl) rfl ?_
      refine V_bipush hC (6) kX6_hands_24 (by decide) ?_
      refine V_iald hC 6 rfl kX6_hands_26 (vp_lit rfl) ?_
      refine V_aload_n hC kX6_hands_27 rfl ?_
      refine V_iload_n hC kX6_hands_28 rfl ?_
      refine V_bipush hC (9) kX6_hands_29 (by decide) ?_
      refine V_cV_fI hC (ct_ofBoat hWr a 9 ha (vp_lit rfl)) mkX6_ofBoat lmX6_53 kX6_hands_31 (Nat.le_of_ble_eq_true rfl) rfl rfl rfl (Nat.le_of_ble_eq_true rfl) ⟨(Nat.le_of_ble_eq_true rfl), (Nat.le_of_ble_eq_true rfl)⟩ ⟨rfl, rfl⟩ ⟨(Nat.le_of_ble_eq_true rfl), (Nat.le_of_ble_eq_true rfl)⟩ ?_
      refine V_isub hC kX6_hands_34 ?_
      refine V_aload_n hC kX6_hands_35 rfl ?_
      refine V_getR hC hWr 6 1 lfX6_7 kX6_hands_36 (Nat.le_of_ble_eq_true rfl) (Nat.le_of_ble_eq_true rfl) rfl ?_
      refine V_iconst hC (3) kX6_hands_39 (by decide) ?_
      refine V_iald hC 3 rfl kX6_hands_40 (vp_lit rfl) ?_
      refine V_icmp_gt hC 48 kX6_hands_41 (by decide) (fun h41 => ?_) (fun h41 => ?_)
      · refine V_iconst hC (0) kX6_hands_48 (by decide) ?_
        exact j49 _ ((b01_f (fun z => absurd z.2 (Int32.not_le.mpr h41))).symm)
      · refine V_iconst hC (1) kX6_hands_44 (by decide) ?_
        refine V_goto hC 49 kX6_hands_45 (by decide) ?_
        exact j49 _ ((b01_t ⟨h17, Int32.not_lt.mp h41⟩).symm)
