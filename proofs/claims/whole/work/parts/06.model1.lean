-- HOW ct_in fI
-- HOW ct_fails fI
-- HOW ct_of fI
-- HOW ct_ofBoat fI
-- HOW ct_layBoat fV
-- HOW ct_isLight fI
-- HOW ct_isBoat fI
-- HOW ct_isPlace fI
def mtX6_in : Mt := (yX6_in, cX6_in, 3, (some .boolean), 0, 0, 0, 0)
theorem kX6_in_0 : Dk mtX6_in 0 (.iload_n 0) 1 1 := ⟨by decide +kernel, rfl⟩
theorem kX6_in_1 : Dk mtX6_in 1 (.iload_n 1) 1 2 := ⟨by decide +kernel, rfl⟩
theorem kX6_in_2 : Dk mtX6_in 2 (.if_icmp .lt 12) 3 5 := ⟨by decide +kernel, rfl⟩
theorem kX6_in_5 : Dk mtX6_in 5 (.iload_n 0) 1 6 := ⟨by decide +kernel, rfl⟩
theorem kX6_in_6 : Dk mtX6_in 6 (.iload_n 2) 1 7 := ⟨by decide +kernel, rfl⟩
theorem kX6_in_7 : Dk mtX6_in 7 (.if_icmp .gt 7) 3 10 := ⟨by decide +kernel, rfl⟩
theorem kX6_in_10 : Dk mtX6_in 10 (.iconst 1) 1 11 := ⟨by decide +kernel, rfl⟩
theorem kX6_in_11 : Dk mtX6_in 11 (.goto 4) 3 14 := ⟨by decide +kernel, rfl⟩
theorem kX6_in_14 : Dk mtX6_in 14 (.iconst 0) 1 15 := ⟨by decide +kernel, rfl⟩
theorem kX6_in_15 : Dk mtX6_in 15 (.ireturn) 1 16 := ⟨by decide +kernel, rfl⟩
set_option maxHeartbeats 4000000 in
set_option maxRecDepth 100000 in
theorem ct_in {l : Launch} {w : Wd} {sg : Sg} (hWr : Wr w) (v a b : Int32) : M l mtX6_in w [vI v, vI a, vI b] sg (fI (b01 (inn v a b)) sg) := by
  refine M_of [some (vI v), some (vI a), some (vI b)] rfl (Nat.le_of_ble_eq_true rfl) (by decide +kernel) ?_
  intro p e s m args below meth c hC hO
  refine V_iload_n hC kX6_in_0 rfl ?_
  refine V_iload_n hC kX6_in_1 rfl ?_
  refine V_icmp_lt hC 14 kX6_in_2 (by decide) (fun h2 => ?_) (fun h2 => ?_)
  · refine V_iconst hC (0) kX6_in_14 (by decide) ?_
    refine V_iretz hC rfl kX6_in_15 ?_ ?_
    · first | exact Or.inl rfl | exact Or.inr rfl
    · refine ⟨?_, rfl⟩
      first | exact cI (b01_t ⟨Int32.not_lt.mp h2, Int32.not_lt.mp h7⟩).symm | exact cI (b01_f (fun q => absurd q.1 (Int32.not_le.mpr h2))).symm | exact cI (b01_f (fun q => absurd q.2 (Int32.not_le.mpr h7))).symm
  · refine V_iload_n hC kX6_in_5 rfl ?_
    refine V_iload_n hC kX6_in_6 rfl ?_
    refine V_icmp_gt hC 14 kX6_in_7 (by decide) (fun h7 => ?_) (fun h7 => ?_)
    · refine V_iconst hC (0) kX6_in_14 (by decide) ?_
      refine V_iretz hC rfl kX6_in_15 ?_ ?_
      · first | exact Or.inl rfl | exact Or.inr rfl
      · refine ⟨?_, rfl⟩
        first | exact cI (b01_t ⟨Int32.not_lt.mp h2, Int32.not_lt.mp h7⟩).symm | exact cI (b01_f (fun q => absurd q.1 (Int32.not_le.mpr h2))).symm | exact cI (b01_f (fun q => absurd q.2 (Int32.not_le.mpr h7))).symm
    · refine V_iconst hC (1) kX6_in_10 (by decide) ?_
      refine V_goto hC 15 kX6_in_11 (by decide) ?_
      refine V_iretz hC rfl kX6_in_15 ?_ ?_
      · first | exact Or.inl rfl | exact Or.inr rfl
      · refine ⟨?_, rfl⟩
        first | exact cI (b01_t ⟨Int32.not_lt.mp h2, Int32.not_lt.mp h7⟩).symm | exact cI (b01_f (fun q => absurd q.1 (Int32.not_le.mpr h2))).symm | exact cI (b01_f (fun q => absurd q.2 (Int32.not_le.mpr h7))).symm
def mtX6_fails : Mt := (yX6_fails, cX6_fails, 2, (some .int), 0, 0, 0, 0)
theorem kX6_fails_0 : Dk mtX6_fails 0 (.aload_n 0) 1 1 := ⟨by decide +kernel, rfl⟩
theorem kX6_fails_1 : Dk mtX6_fails 1 (.iload_n 1) 1 2 := ⟨by decide +kernel, rfl⟩
theorem kX6_fails_2 : Dk mtX6_fails 2 (.putfield 32) 3 5 := ⟨by decide +kernel, rfl⟩
theorem kX6_fails_5 : Dk mtX6_fails 5 (.iconst 0) 1 6 := ⟨by decide +kernel, rfl⟩
theorem kX6_fails_6 : Dk mtX6_fails 6 (.ireturn) 1 7 := ⟨by decide +kernel, rfl⟩
theorem lfX6_32 : LkF RX6 32 6 0 := Or.inl (by decide +kernel)
set_option maxHeartbeats 4000000 in
set_option maxRecDepth 100000 in
theorem ct_fails {l : Launch} {w : Wd} {sg : Sg} (hWr : Wr w) {mo : Nat} (x : Int32) : M l mtX6_fails w [vR (some (6, 0, mo)), vI x] sg (fI 0 (ups sg mo 0 x)) := by
  refine M_of [some (vR (some (6, 0, mo))), some (vI x)] rfl (Nat.le_of_ble_eq_true rfl) (by decide +kernel) ?_
  intro p e s m args below meth c hC hO
  refine V_aload_n hC kX6_fails_0 rfl ?_
  refine V_iload_n hC kX6_fails_1 rfl ?_
  refine V_putI hC 6 0 lfX6_32 kX6_fails_2 (Nat.le_of_ble_eq_true rfl) (Nat.le_of_ble_eq_true rfl) rfl rfl ⟨rfl, rfl⟩ ?_
  refine V_iconst hC (0) kX6_fails_5 (by decide) ?_
  refine V_ireti hC rfl kX6_fails_6 ?_
  exact ⟨by with_reducible rfl, by with_reducible rfl⟩
def mtX6_of : Mt := (yX6_of, cX6_of, 3, (some .int), 0, 0, 0, 0)
theorem kX6_of_0 : Dk mtX6_of 0 (.aload_n 0) 1 1 := ⟨by decide +kernel, rfl⟩
theorem kX6_of_1 : Dk mtX6_of 1 (.getfield 7) 3 4 := ⟨by decide +kernel, rfl⟩
theorem kX6_of_4 : Dk mtX6_of 4 (.bipush 12) 2 6 := ⟨by decide +kernel, rfl⟩
theorem kX6_of_6 : Dk mtX6_of 6 (.bipush 8) 2 8 := ⟨by decide +kernel, rfl⟩
theorem kX6_of_8 : Dk mtX6_of 8 (.iload_n 1) 1 9 := ⟨by decide +kernel, rfl⟩
theorem kX6_of_9 : Dk mtX6_of 9 (.imul) 1 10 := ⟨by decide +kernel, rfl⟩
theorem kX6_of_10 : Dk mtX6_of 10 (.iadd) 1 11 := ⟨by decide +kernel, rfl⟩
theorem kX6_of_11 : Dk mtX6_of 11 (.iload_n 2) 1 12 := ⟨by decide +kernel, rfl⟩
theorem kX6_of_12 : Dk mtX6_of 12 (.iadd) 1 13 := ⟨by decide +kernel, rfl⟩
theorem kX6_of_13 : Dk mtX6_of 13 (.iaload) 1 14 := ⟨by decide +kernel, rfl⟩
theorem kX6_of_14 : Dk mtX6_of 14 (.ireturn) 1 15 := ⟨by decide +kernel, rfl⟩
theorem lfX6_7 : LkF RX6 7 6 1 := Or.inl (by decide +kernel)
set_option maxHeartbeats 4000000 in
set_option maxRecDepth 100000 in
theorem ct_of {l : Launch} {w : Wd} {sg : Sg} (hWr : Wr w) {mo : Nat} (a j : Int32) (ha : vp_in a 6) (hj : vp_in j 8) : M l mtX6_of w [vR (some (6, 0, mo)), vI a, vI j] sg (fI (gL (sg (mo + 1)) a j) sg) := by
  refine M_of [some (vR (some (6, 0, mo))), some (vI a), some (vI j)] rfl (Nat.le_of_ble_eq_true rfl) (by decide +kernel) ?_
  intro p e s m args below meth c hC hO
  refine V_aload_n hC kX6_of_0 rfl ?_
  refine V_getR hC hWr 6 1 lfX6_7 kX6_of_1 (Nat.le_of_ble_eq_true rfl) (Nat.le_of_ble_eq_true rfl) rfl ?_
  refine V_bipush hC (12) kX6_of_4 (by decide) ?_
  refine V_bipush hC (8) kX6_of_6 (by decide) ?_
  refine V_iload_n hC kX6_of_8 rfl ?_
  refine V_imul hC kX6_of_9 ?_
  refine V_iadd hC kX6_of_10 ?_
  refine V_iload_n hC kX6_of_11 rfl ?_
  refine V_iadd hC kX6_of_12 ?_
  refine V_iald hC _ rfl kX6_of_13 (inL ha hj) ?_
  refine V_ireti hC rfl kX6_of_14 ?_
  refine ⟨cI ?_, by with_reducible rfl⟩
  unfold gL tn
  with_reducible rfl
def mtX6_ofBoat : Mt := (yX6_ofBoat, cX6_ofBoat, 3, (some .int), 0, 0, 0, 0)
theorem kX6_ofBoat_0 : Dk mtX6_ofBoat 0 (.aload_n 0) 1 1 := ⟨by decide +kernel, rfl⟩
theorem kX6_ofBoat_1 : Dk mtX6_ofBoat 1 (.getfield 7) 3 4 := ⟨by decide +kernel, rfl⟩
theorem kX6_ofBoat_4 : Dk mtX6_ofBoat 4 (.bipush 60) 2 6 := ⟨by decide +kernel, rfl⟩
theorem kX6_ofBoat_6 : Dk mtX6_ofBoat 6 (.bipush 10) 2 8 := ⟨by decide +kernel, rfl⟩
theorem kX6_ofBoat_8 : Dk mtX6_ofBoat 8 (.iload_n 1) 1 9 := ⟨by decide +kernel, rfl⟩
theorem kX6_ofBoat_9 : Dk mtX6_ofBoat 9 (.imul) 1 10 := ⟨by decide +kernel, rfl⟩
theorem kX6_ofBoat_10 : Dk mtX6_ofBoat 10 (.iadd) 1 11 := ⟨by decide +kernel, rfl⟩
theorem kX6_ofBoat_11 : Dk mtX6_ofBoat 11 (.iload_n 2) 1 12 := ⟨by decide +kernel, rfl⟩
theorem kX6_ofBoat_12 : Dk mtX6_ofBoat 12 (.iadd) 1 13 := ⟨by decide +kernel, rfl⟩
theorem kX6_ofBoat_13 : Dk mtX6_ofBoat 13 (.iaload) 1 14 := ⟨by decide +kernel, rfl⟩
theorem kX6_ofBoat_14 : Dk mtX6_ofBoat 14 (.ireturn) 1 15 := ⟨by decide +kernel, rfl⟩
set_option maxHeartbeats 4000000 in
set_option maxRecDepth 100000 in
theorem ct_ofBoat {l : Launch} {w : Wd} {sg : Sg} (hWr : Wr w) {mo : Nat} (a j : Int32) (ha : vp_in a 8) (hj : vp_in j 10) : M l mtX6_ofBoat w [vR (some (6, 0, mo)), vI a, vI j] sg (fI (gB (sg (mo + 1)) a j) sg) := by
  refine M_of [some (vR (some (6, 0, mo))), some (vI a), some (vI j)] rfl (Nat.le_of_ble_eq_true rfl) (by decide +kernel) ?_
  intro p e s m args below meth c hC hO
  refine V_aload_n hC kX6_ofBoat_0 rfl ?_
  refine V_getR hC hWr 6 1 lfX6_7 kX6_ofBoat_1 (Nat.le_of_ble_eq_true rfl) (Nat.le_of_ble_eq_true rfl) rfl ?_
  refine V_bipush hC (60) kX6_ofBoat_4 (by decide) ?_
  refine V_bipush hC (10) kX6_ofBoat_6 (by decide) ?_
  refine V_iload_n hC kX6_ofBoat_8 rfl ?_
  refine V_imul hC kX6_ofBoat_9 ?_
  refine V_iadd hC kX6_ofBoat_10 ?_
  refine V_iload_n hC kX6_ofBoat_11 rfl ?_
  refine V_iadd hC kX6_ofBoat_12 ?_
  refine V_iald hC _ rfl kX6_ofBoat_13 (inB ha hj) ?_
  refine V_ireti hC rfl kX6_ofBoat_14 ?_
  refine ⟨cI ?_, by with_reducible rfl⟩
  unfold gB tn
  with_reducible rfl
def mtX6_layBoat : Mt := (yX6_layBoat, cX6_layBoat, 4, none, 0, 0, 0, 0)
theorem kX6_layBoat_0 : Dk mtX6_layBoat 0 (.aload_n 0) 1 1 := ⟨by decide +kernel, rfl⟩
theorem kX6_layBoat_1 : Dk mtX6_layBoat 1 (.getfield 7) 3 4 := ⟨by decide +kernel, rfl⟩
theorem kX6_layBoat_4 : Dk mtX6_layBoat 4 (.bipush 60) 2 6 := ⟨by decide +kernel, rfl⟩
theorem kX6_layBoat_6 : Dk mtX6_layBoat 6 (.bipush 10) 2 8 := ⟨by decide +kernel, rfl⟩
theorem kX6_layBoat_8 : Dk mtX6_layBoat 8 (.iload_n 1) 1 9 := ⟨by decide +kernel, rfl⟩
theorem kX6_layBoat_9 : Dk mtX6_layBoat 9 (.imul) 1 10 := ⟨by decide +kernel, rfl⟩
theorem kX6_layBoat_10 : Dk mtX6_layBoat 10 (.iadd) 1 11 := ⟨by decide +kernel, rfl⟩
theorem kX6_layBoat_11 : Dk mtX6_layBoat 11 (.iload_n 2) 1 12 := ⟨by decide +kernel, rfl⟩
theorem kX6_layBoat_12 : Dk mtX6_layBoat 12 (.iadd) 1 13 := ⟨by decide +kernel, rfl⟩
theorem kX6_layBoat_13 : Dk mtX6_layBoat 13 (.iload_n 3) 1 14 := ⟨by decide +kernel, rfl⟩
theorem kX6_layBoat_14 : Dk mtX6_layBoat 14 (.iastore) 1 15 := ⟨by decide +kernel, rfl⟩
theorem kX6_layBoat_15 : Dk mtX6_layBoat 15 (.return_) 1 16 := ⟨by decide +kernel, rfl⟩
set_option maxHeartbeats 4000000 in
set_option maxRecDepth 100000 in
theorem ct_layBoat {l : Launch} {w : Wd} {sg : Sg} (hWr : Wr w) {mo : Nat} (a j x : Int32) (ha : vp_in a 8) (hj : vp_in j 10) : M l mtX6_layBoat w [vR (some (6, 0, mo)), vI a, vI j, vI x] sg (fV0 (upr sg (mo + 1) (pB (sg (mo + 1)) a j x))) := by
  refine M_of [some (vR (some (6, 0, mo))), some (vI a), some (vI j), some (vI x)] rfl (Nat.le_of_ble_eq_true rfl) (by decide +kernel) ?_
  intro p e s m args below meth c hC hO
  refine V_aload_n hC kX6_layBoat_0 rfl ?_
  refine V_getR hC hWr 6 1 lfX6_7 kX6_layBoat_1 (Nat.le_of_ble_eq_true rfl) (Nat.le_of_ble_eq_true rfl) rfl ?_
  refine V_bipush hC (60) kX6_layBoat_4 (by decide) ?_
  refine V_bipush hC (10) kX6_layBoat_6 (by decide) ?_
  refine V_iload_n hC kX6_layBoat_8 rfl ?_
  refine V_imul hC kX6_layBoat_9 ?_
  refine V_iadd hC kX6_layBoat_10 ?_
  refine V_iload_n hC kX6_layBoat_11 rfl ?_
  refine V_iadd hC kX6_layBoat_12 ?_
  refine V_iload_n hC kX6_layBoat_13 rfl ?_
  refine V_iast hC _ rfl kX6_layBoat_14 (inB ha hj) ?_
  refine V_vret hC rfl kX6_layBoat_15 ?_
  refine ⟨by with_reducible rfl, ?_⟩
  unfold pB tn ups
  with_reducible rfl
def mtX6_isLight : Mt := (yX6_isLight, cX6_isLight, 2, (some .boolean), 1, 22, 0, 0)
theorem kX6_isLight_0 : Dk mtX6_isLight 0 (.iload_n 1) 1 1 := ⟨by decide +kernel, rfl⟩
theorem kX6_isLight_1 : Dk mtX6_isLight 1 (.iconst 0) 1 2 := ⟨by decide +kernel, rfl⟩
theorem kX6_isLight_2 : Dk mtX6_isLight 2 (.aload_n 0) 1 3 := ⟨by decide +kernel, rfl⟩
theorem kX6_isLight_3 : Dk mtX6_isLight 3 (.getfield 7) 3 6 := ⟨by decide +kernel, rfl⟩
theorem kX6_isLight_6 : Dk mtX6_isLight 6 (.iconst 4) 1 7 := ⟨by decide +kernel, rfl⟩
theorem kX6_isLight_7 : Dk mtX6_isLight 7 (.iaload) 1 8 := ⟨by decide +kernel, rfl⟩
theorem kX6_isLight_8 : Dk mtX6_isLight 8 (.iconst 1) 1 9 := ⟨by decide +kernel, rfl⟩
theorem kX6_isLight_9 : Dk mtX6_isLight 9 (.isub) 1 10 := ⟨by decide +kernel, rfl⟩
theorem kX6_isLight_10 : Dk mtX6_isLight 10 (.invokestatic 39) 3 13 := ⟨by decide +kernel, rfl⟩
theorem kX6_isLight_13 : Dk mtX6_isLight 13 (.ireturn) 1 14 := ⟨by decide +kernel, rfl⟩
theorem lmX6_39 : LkM RX6 39 mtX6_in := Or.inl (by decide +kernel)
theorem mkX6_in : MkS mtX6_in 3 := ⟨List.mem_of_getElem? (i := 1078) (by decide +kernel), by decide +kernel, by decide +kernel, ⟨by decide +kernel, by decide +kernel, by decide +kernel⟩⟩
set_option maxHeartbeats 4000000 in
set_option maxRecDepth 100000 in
theorem ct_isLight {l : Launch} {w : Wd} {sg : Sg} (hWr : Wr w) {mo : Nat} (a : Int32) : M l mtX6_isLight w [vR (some (6, 0, mo)), vI a] sg (fI (b01 (inn a 0 ((sg (mo + 1)) 4 - 1))) sg) := by
  refine M_of [some (vR (some (6, 0, mo))), some (vI a)] rfl (Nat.le_of_ble_eq_true rfl) (by decide +kernel) ?_
  intro p e s m args below meth c hC hO
  refine V_iload_n hC kX6_isLight_0 rfl ?_
  refine V_iconst hC (0) kX6_isLight_1 (by decide) ?_
  refine V_aload_n hC kX6_isLight_2 rfl ?_
  refine V_getR hC hWr 6 1 lfX6_7 kX6_isLight_3 (Nat.le_of_ble_eq_true rfl) (Nat.le_of_ble_eq_true rfl) rfl ?_
  refine V_iconst hC (4) kX6_isLight_6 (by decide) ?_
  refine V_iald hC 4 rfl kX6_isLight_7 (by decide) ?_
  refine V_iconst hC (1) kX6_isLight_8 (by decide) ?_
  refine V_isub hC kX6_isLight_9 ?_
  refine V_cS_fI hC (ct_in hWr _ _ _) mkX6_in lmX6_39 kX6_isLight_10 rfl rfl (Nat.le_of_ble_eq_true rfl) ⟨(Nat.le_of_ble_eq_true rfl), (Nat.le_of_ble_eq_true rfl)⟩ ⟨(Nat.le_of_ble_eq_true rfl), (Nat.le_of_ble_eq_true rfl)⟩ ?_
  refine V_iretz hC rfl kX6_isLight_13 ?_ ?_
  · exact b01_z _
  · exact ⟨by with_reducible rfl, by with_reducible rfl⟩
def mtX6_isBoat : Mt := (yX6_isBoat, cX6_isBoat, 2, (some .boolean), 1, 22, 0, 0)
theorem kX6_isBoat_0 : Dk mtX6_isBoat 0 (.iload_n 1) 1 1 := ⟨by decide +kernel, rfl⟩
theorem kX6_isBoat_1 : Dk mtX6_isBoat 1 (.iconst 0) 1 2 := ⟨by decide +kernel, rfl⟩
theorem kX6_isBoat_2 : Dk mtX6_isBoat 2 (.aload_n 0) 1 3 := ⟨by decide +kernel, rfl⟩
theorem kX6_isBoat_3 : Dk mtX6_isBoat 3 (.getfield 7) 3 6 := ⟨by decide +kernel, rfl⟩
theorem kX6_isBoat_6 : Dk mtX6_isBoat 6 (.iconst 5) 1 7 := ⟨by decide +kernel, rfl⟩
theorem kX6_isBoat_7 : Dk mtX6_isBoat 7 (.iaload) 1 8 := ⟨by decide +kernel, rfl⟩
theorem kX6_isBoat_8 : Dk mtX6_isBoat 8 (.iconst 1) 1 9 := ⟨by decide +kernel, rfl⟩
theorem kX6_isBoat_9 : Dk mtX6_isBoat 9 (.isub) 1 10 := ⟨by decide +kernel, rfl⟩
theorem kX6_isBoat_10 : Dk mtX6_isBoat 10 (.invokestatic 39) 3 13 := ⟨by decide +kernel, rfl⟩
theorem kX6_isBoat_13 : Dk mtX6_isBoat 13 (.ireturn) 1 14 := ⟨by decide +kernel, rfl⟩
set_option maxHeartbeats 4000000 in
set_option maxRecDepth 100000 in
theorem ct_isBoat {l : Launch} {w : Wd} {sg : Sg} (hWr : Wr w) {mo : Nat} (a : Int32) : M l mtX6_isBoat w [vR (some (6, 0, mo)), vI a] sg (fI (b01 (inn a 0 ((sg (mo + 1)) 5 - 1))) sg) := by
  refine M_of [some (vR (some (6, 0, mo))), some (vI a)] rfl (Nat.le_of_ble_eq_true rfl) (by decide +kernel) ?_
  intro p e s m args below meth c hC hO
  refine V_iload_n hC kX6_isBoat_0 rfl ?_
  refine V_iconst hC (0) kX6_isBoat_1 (by decide) ?_
  refine V_aload_n hC kX6_isBoat_2 rfl ?_
  refine V_getR hC hWr 6 1 lfX6_7 kX6_isBoat_3 (Nat.le_of_ble_eq_true rfl) (Nat.le_of_ble_eq_true rfl) rfl ?_
  refine V_iconst hC (5) kX6_isBoat_6 (by decide) ?_
  refine V_iald hC 5 rfl kX6_isBoat_7 (by decide) ?_
  refine V_iconst hC (1) kX6_isBoat_8 (by decide) ?_
  refine V_isub hC kX6_isBoat_9 ?_
  refine V_cS_fI hC (ct_in hWr _ _ _) mkX6_in lmX6_39 kX6_isBoat_10 rfl rfl (Nat.le_of_ble_eq_true rfl) ⟨(Nat.le_of_ble_eq_true rfl), (Nat.le_of_ble_eq_true rfl)⟩ ⟨(Nat.le_of_ble_eq_true rfl), (Nat.le_of_ble_eq_true rfl)⟩ ?_
  refine V_iretz hC rfl kX6_isBoat_13 ?_ ?_
  · exact b01_z _
  · exact ⟨by with_reducible rfl, by with_reducible rfl⟩
def mtX6_isPlace : Mt := (yX6_isPlace, cX6_isPlace, 1, (some .boolean), 1, 22, 0, 0)
theorem kX6_isPlace_0 : Dk mtX6_isPlace 0 (.iload_n 0) 1 1 := ⟨by decide +kernel, rfl⟩
theorem kX6_isPlace_1 : Dk mtX6_isPlace 1 (.iconst 0) 1 2 := ⟨by decide +kernel, rfl⟩
theorem kX6_isPlace_2 : Dk mtX6_isPlace 2 (.sipush 199) 3 5 := ⟨by decide +kernel, rfl⟩
theorem kX6_isPlace_5 : Dk mtX6_isPlace 5 (.invokestatic 39) 3 8 := ⟨by decide +kernel, rfl⟩
theorem kX6_isPlace_8 : Dk mtX6_isPlace 8 (.ireturn) 1 9 := ⟨by decide +kernel, rfl⟩
set_option maxHeartbeats 4000000 in
set_option maxRecDepth 100000 in
theorem ct_isPlace {l : Launch} {w : Wd} {sg : Sg} (hWr : Wr w) (a : Int32) : M l mtX6_isPlace w [vI a] sg (fI (b01 (inn a 0 199)) sg) := by
  refine M_of [some (vI a)] rfl (Nat.le_of_ble_eq_true rfl) (by decide +kernel) ?_
  intro p e s m args below meth c hC hO
  refine V_iload_n hC kX6_isPlace_0 rfl ?_
  refine V_iconst hC (0) kX6_isPlace_1 (by decide) ?_
  refine V_sipush hC (199) kX6_isPlace_2 (by decide) ?_
  refine V_cS_fI hC (ct_in hWr _ _ _) mkX6_in lmX6_39 kX6_isPlace_5 rfl rfl (Nat.le_of_ble_eq_true rfl) ⟨(Nat.le_of_ble_eq_true rfl), (Nat.le_of_ble_eq_true rfl)⟩ ⟨(Nat.le_of_ble_eq_true rfl), (Nat.le_of_ble_eq_true rfl)⟩ ?_
  refine V_iretz hC rfl kX6_isPlace_8 ?_ ?_
  · exact b01_z _
  · exact ⟨by with_reducible rfl, by with_reducible rfl⟩
