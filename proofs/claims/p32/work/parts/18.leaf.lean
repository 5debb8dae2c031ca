-- HOW cl_isPlace fI
-- HOW cl_isSpeed fI
-- HOW cl_isStrength fI
-- HOW cl_isTickCount fI
-- HOW cl_isSetting fI
-- HOW cl_isSlot fI
-- HOW cl_isSettingValue fI
-- HOW cl_shown fI
-- HOW cl_lbegin fV
-- HOW cl_lcopy fV
-- HOW cl_bcopy fV
-- HOW cl_lnum fI
-- HOW cl_bnum fI
-- HOW cl_bright fI
-- HOW cl_worth fI
-- HOW cl_bitCount fI
-- HOW cl_servedCount fI
-- HOW cl_takesHandedOn fI
-- HOW cl_takesOthers fI
-- HOW cl_bbegin fV
-- HOW cl_move fV
-- HOW cl_wishFor fV
/-! the class: its leaves -/
theorem lt200 {a : Int32} : a < 200 ↔ a ≤ 199 := by
  rw [Int32.lt_iff_toInt_lt, Int32.le_iff_toInt_le]
  have e1 : (200 : Int32).toInt = 200 := rfl
  have e2 : (199 : Int32).toInt = 199 := rfl
  omega
theorem lt4 {a : Int32} : a < 4 ↔ a ≤ 3 := by
  rw [Int32.lt_iff_toInt_lt, Int32.le_iff_toInt_le]
  have e1 : (4 : Int32).toInt = 4 := rfl
  have e2 : (3 : Int32).toInt = 3 := rfl
  omega
theorem lt2 {a : Int32} : a < 2 ↔ a ≤ 1 := by
  rw [Int32.lt_iff_toInt_lt, Int32.le_iff_toInt_le]
  have e1 : (2 : Int32).toInt = 2 := rfl
  have e2 : (1 : Int32).toInt = 1 := rfl
  omega
def mtX5_isPlace : Mt := (yX5_isPlace, cX5_isPlace, 1, (some .boolean), 0, 0, 0, 0)
theorem kX5_isPlace_0 : Dk mtX5_isPlace 0 (.iload_n 0) 1 1 := ⟨by decide +kernel, rfl⟩
theorem kX5_isPlace_1 : Dk mtX5_isPlace 1 (.ifCond .lt 14) 3 4 := ⟨by decide +kernel, rfl⟩
theorem kX5_isPlace_4 : Dk mtX5_isPlace 4 (.iload_n 0) 1 5 := ⟨by decide +kernel, rfl⟩
theorem kX5_isPlace_5 : Dk mtX5_isPlace 5 (.sipush 200) 3 8 := ⟨by decide +kernel, rfl⟩
theorem kX5_isPlace_8 : Dk mtX5_isPlace 8 (.if_icmp .ge 7) 3 11 := ⟨by decide +kernel, rfl⟩
theorem kX5_isPlace_11 : Dk mtX5_isPlace 11 (.iconst 1) 1 12 := ⟨by decide +kernel, rfl⟩
theorem kX5_isPlace_12 : Dk mtX5_isPlace 12 (.goto 4) 3 15 := ⟨by decide +kernel, rfl⟩
theorem kX5_isPlace_15 : Dk mtX5_isPlace 15 (.iconst 0) 1 16 := ⟨by decide +kernel, rfl⟩
theorem kX5_isPlace_16 : Dk mtX5_isPlace 16 (.ireturn) 1 17 := ⟨by decide +kernel, rfl⟩
set_option maxHeartbeats 4000000 in
set_option maxRecDepth 100000 in
theorem cl_isPlace {l : Launch} {w : Wd} {sg : Sg} (hWr : Wr w) (a : Int32) : M l mtX5_isPlace w [vI a] sg (fI (b01 (inn a 0 199)) sg) := by
  refine M_of [some (vI a)] rfl (Nat.le_of_ble_eq_true rfl) (by decide +kernel) ?_
  intro p_ e_ s_ m_ args_ below_ meth_ c_ hC hO
  refine V_iload_n hC kX5_isPlace_0 rfl ?_
  refine V_if_lt hC 15 kX5_isPlace_1 (by decide) (fun h1 => ?_) (fun h1 => ?_)
  · refine V_iconst hC (0) kX5_isPlace_15 (by decide) ?_
    refine V_iretz hC rfl kX5_isPlace_16 ?_ ?_
    · first | exact Or.inl rfl | exact Or.inr rfl
    · refine ⟨cI ?_, by with_reducible rfl⟩
      first
      | exact (b01_f (fun z => absurd z.1 (Int32.not_le.mpr h1))).symm
      | exact (b01_f (fun z => absurd (lt200.mpr z.2) (Int32.not_lt.mpr h8))).symm
      | exact (b01_t ⟨Int32.not_lt.mp h1, lt200.mp (Int32.not_le.mp h8)⟩).symm
  · refine V_iload_n hC kX5_isPlace_4 rfl ?_
    refine V_sipush hC (200) kX5_isPlace_5 (by decide) ?_
    refine V_icmp_ge hC 15 kX5_isPlace_8 (by decide) (fun h8 => ?_) (fun h8 => ?_)
    · refine V_iconst hC (0) kX5_isPlace_15 (by decide) ?_
      refine V_iretz hC rfl kX5_isPlace_16 ?_ ?_
      · first | exact Or.inl rfl | exact Or.inr rfl
      · refine ⟨cI ?_, by with_reducible rfl⟩
        first
        | exact (b01_f (fun z => absurd z.1 (Int32.not_le.mpr h1))).symm
        | exact (b01_f (fun z => absurd (lt200.mpr z.2) (Int32.not_lt.mpr h8))).symm
        | exact (b01_t ⟨Int32.not_lt.mp h1, lt200.mp (Int32.not_le.mp h8)⟩).symm
    · refine V_iconst hC (1) kX5_isPlace_11 (by decide) ?_
      refine V_goto hC 16 kX5_isPlace_12 (by decide) ?_
      refine V_iretz hC rfl kX5_isPlace_16 ?_ ?_
      · first | exact Or.inl rfl | exact Or.inr rfl
      · refine ⟨cI ?_, by with_reducible rfl⟩
        first
        | exact (b01_f (fun z => absurd z.1 (Int32.not_le.mpr h1))).symm
        | exact (b01_f (fun z => absurd (lt200.mpr z.2) (Int32.not_lt.mpr h8))).symm
        | exact (b01_t ⟨Int32.not_lt.mp h1, lt200.mp (Int32.not_le.mp h8)⟩).symm
def mtX5_isSpeed : Mt := (yX5_isSpeed, cX5_isSpeed, 1, (some .boolean), 0, 0, 0, 0)
theorem kX5_isSpeed_0 : Dk mtX5_isSpeed 0 (.iload_n 0) 1 1 := ⟨by decide +kernel, rfl⟩
theorem kX5_isSpeed_1 : Dk mtX5_isSpeed 1 (.bipush (-6)) 2 3 := ⟨by decide +kernel, rfl⟩
theorem kX5_isSpeed_3 : Dk mtX5_isSpeed 3 (.if_icmp .lt 13) 3 6 := ⟨by decide +kernel, rfl⟩
theorem kX5_isSpeed_6 : Dk mtX5_isSpeed 6 (.iload_n 0) 1 7 := ⟨by decide +kernel, rfl⟩
theorem kX5_isSpeed_7 : Dk mtX5_isSpeed 7 (.bipush 6) 2 9 := ⟨by decide +kernel, rfl⟩
theorem kX5_isSpeed_9 : Dk mtX5_isSpeed 9 (.if_icmp .gt 7) 3 12 := ⟨by decide +kernel, rfl⟩
theorem kX5_isSpeed_12 : Dk mtX5_isSpeed 12 (.iconst 1) 1 13 := ⟨by decide +kernel, rfl⟩
theorem kX5_isSpeed_13 : Dk mtX5_isSpeed 13 (.goto 4) 3 16 := ⟨by decide +kernel, rfl⟩
theorem kX5_isSpeed_16 : Dk mtX5_isSpeed 16 (.iconst 0) 1 17 := ⟨by decide +kernel, rfl⟩
theorem kX5_isSpeed_17 : Dk mtX5_isSpeed 17 (.ireturn) 1 18 := ⟨by decide +kernel, rfl⟩
set_option maxHeartbeats 4000000 in
set_option maxRecDepth 100000 in
theorem cl_isSpeed {l : Launch} {w : Wd} {sg : Sg} (hWr : Wr w) (a : Int32) : M l mtX5_isSpeed w [vI a] sg (fI (b01 (inn a (-6) 6)) sg) := by
  refine M_of [some (vI a)] rfl (Nat.le_of_ble_eq_true rfl) (by decide +kernel) ?_
  intro p_ e_ s_ m_ args_ below_ meth_ c_ hC hO
  refine V_iload_n hC kX5_isSpeed_0 rfl ?_
  refine V_bipush hC (-6) kX5_isSpeed_1 (by decide) ?_
  refine V_icmp_lt hC 16 kX5_isSpeed_3 (by decide) (fun h3 => ?_) (fun h3 => ?_)
  · refine V_iconst hC (0) kX5_isSpeed_16 (by decide) ?_
    refine V_iretz hC rfl kX5_isSpeed_17 ?_ ?_
    · first | exact Or.inl rfl | exact Or.inr rfl
    · refine ⟨cI ?_, by with_reducible rfl⟩
      first
      | exact (b01_f (fun z => absurd z.1 (Int32.not_le.mpr h3))).symm
      | exact (b01_f (fun z => absurd z.2 (Int32.not_le.mpr h9))).symm
      | exact (b01_t ⟨Int32.not_lt.mp h3, Int32.not_lt.mp h9⟩).symm
  · refine V_iload_n hC kX5_isSpeed_6 rfl ?_
    refine V_bipush hC (6) kX5_isSpeed_7 (by decide) ?_
    refine V_icmp_gt hC 16 kX5_isSpeed_9 (by decide) (fun h9 => ?_) (fun h9 => ?_)
    · refine V_iconst hC (0) kX5_isSpeed_16 (by decide) ?_
      refine V_iretz hC rfl kX5_isSpeed_17 ?_ ?_
      · first | exact Or.inl rfl | exact Or.inr rfl
      · refine ⟨cI ?_, by with_reducible rfl⟩
        first
        | exact (b01_f (fun z => absurd z.1 (Int32.not_le.mpr h3))).symm
        | exact (b01_f (fun z => absurd z.2 (Int32.not_le.mpr h9))).symm
        | exact (b01_t ⟨Int32.not_lt.mp h3, Int32.not_lt.mp h9⟩).symm
    · refine V_iconst hC (1) kX5_isSpeed_12 (by decide) ?_
      refine V_goto hC 17 kX5_isSpeed_13 (by decide) ?_
      refine V_iretz hC rfl kX5_isSpeed_17 ?_ ?_
      · first | exact Or.inl rfl | exact Or.inr rfl
      · refine ⟨cI ?_, by with_reducible rfl⟩
        first
        | exact (b01_f (fun z => absurd z.1 (Int32.not_le.mpr h3))).symm
        | exact (b01_f (fun z => absurd z.2 (Int32.not_le.mpr h9))).symm
        | exact (b01_t ⟨Int32.not_lt.mp h3, Int32.not_lt.mp h9⟩).symm
def mtX5_isStrength : Mt := (yX5_isStrength, cX5_isStrength, 1, (some .boolean), 0, 0, 0, 0)
theorem kX5_isStrength_0 : Dk mtX5_isStrength 0 (.iload_n 0) 1 1 := ⟨by decide +kernel, rfl⟩
theorem kX5_isStrength_1 : Dk mtX5_isStrength 1 (.bipush 10) 2 3 := ⟨by decide +kernel, rfl⟩
theorem kX5_isStrength_3 : Dk mtX5_isStrength 3 (.if_icmp .lt 13) 3 6 := ⟨by decide +kernel, rfl⟩
theorem kX5_isStrength_6 : Dk mtX5_isStrength 6 (.iload_n 0) 1 7 := ⟨by decide +kernel, rfl⟩
theorem kX5_isStrength_7 : Dk mtX5_isStrength 7 (.bipush 99) 2 9 := ⟨by decide +kernel, rfl⟩
theorem kX5_isStrength_9 : Dk mtX5_isStrength 9 (.if_icmp .gt 7) 3 12 := ⟨by decide +kernel, rfl⟩
theorem kX5_isStrength_12 : Dk mtX5_isStrength 12 (.iconst 1) 1 13 := ⟨by decide +kernel, rfl⟩
theorem kX5_isStrength_13 : Dk mtX5_isStrength 13 (.goto 4) 3 16 := ⟨by decide +kernel, rfl⟩
theorem kX5_isStrength_16 : Dk mtX5_isStrength 16 (.iconst 0) 1 17 := ⟨by decide +kernel, rfl⟩
theorem kX5_isStrength_17 : Dk mtX5_isStrength 17 (.ireturn) 1 18 := ⟨by decide +kernel, rfl⟩
set_option maxHeartbeats 4000000 in
set_option maxRecDepth 100000 in
theorem cl_isStrength {l : Launch} {w : Wd} {sg : Sg} (hWr : Wr w) (a : Int32) : M l mtX5_isStrength w [vI a] sg (fI (b01 (inn a 10 99)) sg) := by
  refine M_of [some (vI a)] rfl (Nat.le_of_ble_eq_true rfl) (by decide +kernel) ?_
  intro p_ e_ s_ m_ args_ below_ meth_ c_ hC hO
  refine V_iload_n hC kX5_isStrength_0 rfl ?_
  refine V_bipush hC (10) kX5_isStrength_1 (by decide) ?_
  refine V_icmp_lt hC 16 kX5_isStrength_3 (by decide) (fun h3 => ?_) (fun h3 => ?_)
  · refine V_iconst hC (0) kX5_isStrength_16 (by decide) ?_
    refine V_iretz hC rfl kX5_isStrength_17 ?_ ?_
    · first | exact Or.inl rfl | exact Or.inr rfl
    · refine ⟨cI ?_, by with_reducible rfl⟩
      first
      | exact (b01_f (fun z => absurd z.1 (Int32.not_le.mpr h3))).symm
      | exact (b01_f (fun z => absurd z.2 (Int32.not_le.mpr h9))).symm
      | exact (b01_t ⟨Int32.not_lt.mp h3, Int32.not_lt.mp h9⟩).symm
  · refine V_iload_n hC kX5_isStrength_6 rfl ?_
    refine V_bipush hC (99) kX5_isStrength_7 (by decide) ?_
    refine V_icmp_gt hC 16 kX5_isStrength_9 (by decide) (fun h9 => ?_) (fun h9 => ?_)
    · refine V_iconst hC (0) kX5_isStrength_16 (by decide) ?_
      refine V_iretz hC rfl kX5_isStrength_17 ?_ ?_
      · first | exact Or.inl rfl | exact Or.inr rfl
      · refine ⟨cI ?_, by with_reducible rfl⟩
        first
        | exact (b01_f (fun z => absurd z.1 (Int32.not_le.mpr h3))).symm
        | exact (b01_f (fun z => absurd z.2 (Int32.not_le.mpr h9))).symm
        | exact (b01_t ⟨Int32.not_lt.mp h3, Int32.not_lt.mp h9⟩).symm
    · refine V_iconst hC (1) kX5_isStrength_12 (by decide) ?_
      refine V_goto hC 17 kX5_isStrength_13 (by decide) ?_
      refine V_iretz hC rfl kX5_isStrength_17 ?_ ?_
      · first | exact Or.inl rfl | exact Or.inr rfl
      · refine ⟨cI ?_, by with_reducible rfl⟩
        first
        | exact (b01_f (fun z => absurd z.1 (Int32.not_le.mpr h3))).symm
        | exact (b01_f (fun z => absurd z.2 (Int32.not_le.mpr h9))).symm
        | exact (b01_t ⟨Int32.not_lt.mp h3, Int32.not_lt.mp h9⟩).symm
def mtX5_isTickCount : Mt := (yX5_isTickCount, cX5_isTickCount, 1, (some .boolean), 0, 0, 0, 0)
theorem kX5_isTickCount_0 : Dk mtX5_isTickCount 0 (.iload_n 0) 1 1 := ⟨by decide +kernel, rfl⟩
theorem kX5_isTickCount_1 : Dk mtX5_isTickCount 1 (.iconst 1) 1 2 := ⟨by decide +kernel, rfl⟩
theorem kX5_isTickCount_2 : Dk mtX5_isTickCount 2 (.if_icmp .lt 13) 3 5 := ⟨by decide +kernel, rfl⟩
theorem kX5_isTickCount_5 : Dk mtX5_isTickCount 5 (.iload_n 0) 1 6 := ⟨by decide +kernel, rfl⟩
theorem kX5_isTickCount_6 : Dk mtX5_isTickCount 6 (.bipush 60) 2 8 := ⟨by decide +kernel, rfl⟩
theorem kX5_isTickCount_8 : Dk mtX5_isTickCount 8 (.if_icmp .gt 7) 3 11 := ⟨by decide +kernel, rfl⟩
theorem kX5_isTickCount_11 : Dk mtX5_isTickCount 11 (.iconst 1) 1 12 := ⟨by decide +kernel, rfl⟩
theorem kX5_isTickCount_12 : Dk mtX5_isTickCount 12 (.goto 4) 3 15 := ⟨by decide +kernel, rfl⟩
theorem kX5_isTickCount_15 : Dk mtX5_isTickCount 15 (.iconst 0) 1 16 := ⟨by decide +kernel, rfl⟩
theorem kX5_isTickCount_16 : Dk mtX5_isTickCount 16 (.ireturn) 1 17 := ⟨by decide +kernel, rfl⟩
set_option maxHeartbeats 4000000 in
set_option maxRecDepth 100000 in
theorem cl_isTickCount {l : Launch} {w : Wd} {sg : Sg} (hWr : Wr w) (a : Int32) : M l mtX5_isTickCount w [vI a] sg (fI (b01 (inn a 1 60)) sg) := by
  refine M_of [some (vI a)] rfl (Nat.le_of_ble_eq_true rfl) (by decide +kernel) ?_
  intro p_ e_ s_ m_ args_ below_ meth_ c_ hC hO
  refine V_iload_n hC kX5_isTickCount_0 rfl ?_
  refine V_iconst hC (1) kX5_isTickCount_1 (by decide) ?_
  refine V_icmp_lt hC 15 kX5_isTickCount_2 (by decide) (fun h2 => ?_) (fun h2 => ?_)
  · refine V_iconst hC (0) kX5_isTickCount_15 (by decide) ?_
    refine V_iretz hC rfl kX5_isTickCount_16 ?_ ?_
    · first | exact Or.inl rfl | exact Or.inr rfl
    · refine ⟨cI ?_, by with_reducible rfl⟩
      first
      | exact (b01_f (fun z => absurd z.1 (Int32.not_le.mpr h2))).symm
      | exact (b01_f (fun z => absurd z.2 (Int32.not_le.mpr h8))).symm
      | exact (b01_t ⟨Int32.not_lt.mp h2, Int32.not_lt.mp h8⟩).symm
  · refine V_iload_n hC kX5_isTickCount_5 rfl ?_
    refine V_bipush hC (60) kX5_isTickCount_6 (by decide) ?_
    refine V_icmp_gt hC 15 kX5_isTickCount_8 (by decide) (fun h8 => ?_) (fun h8 => ?_)
    · refine V_iconst hC (0) kX5_isTickCount_15 (by decide) ?_
      refine V_iretz hC rfl kX5_isTickCount_16 ?_ ?_
      · first | exact Or.inl rfl | exact Or.inr rfl
      · refine ⟨cI ?_, by with_reducible rfl⟩
        first
        | exact (b01_f (fun z => absurd z.1 (Int32.not_le.mpr h2))).symm
        | exact (b01_f (fun z => absurd z.2 (Int32.not_le.mpr h8))).symm
        | exact (b01_t ⟨Int32.not_lt.mp h2, Int32.not_lt.mp h8⟩).symm
    · refine V_iconst hC (1) kX5_isTickCount_11 (by decide) ?_
      refine V_goto hC 16 kX5_isTickCount_12 (by decide) ?_
      refine V_iretz hC rfl kX5_isTickCount_16 ?_ ?_
      · first | exact Or.inl rfl | exact Or.inr rfl
      · refine ⟨cI ?_, by with_reducible rfl⟩
        first
        | exact (b01_f (fun z => absurd z.1 (Int32.not_le.mpr h2))).symm
        | exact (b01_f (fun z => absurd z.2 (Int32.not_le.mpr h8))).symm
        | exact (b01_t ⟨Int32.not_lt.mp h2, Int32.not_lt.mp h8⟩).symm
def mtX5_isSetting : Mt := (yX5_isSetting, cX5_isSetting, 1, (some .boolean), 0, 0, 0, 0)
theorem kX5_isSetting_0 : Dk mtX5_isSetting 0 (.iload_n 0) 1 1 := ⟨by decide +kernel, rfl⟩
theorem kX5_isSetting_1 : Dk mtX5_isSetting 1 (.ifCond .lt 12) 3 4 := ⟨by decide +kernel, rfl⟩
theorem kX5_isSetting_4 : Dk mtX5_isSetting 4 (.iload_n 0) 1 5 := ⟨by decide +kernel, rfl⟩
theorem kX5_isSetting_5 : Dk mtX5_isSetting 5 (.iconst 4) 1 6 := ⟨by decide +kernel, rfl⟩
theorem kX5_isSetting_6 : Dk mtX5_isSetting 6 (.if_icmp .ge 7) 3 9 := ⟨by decide +kernel, rfl⟩
theorem kX5_isSetting_9 : Dk mtX5_isSetting 9 (.iconst 1) 1 10 := ⟨by decide +kernel, rfl⟩
theorem kX5_isSetting_10 : Dk mtX5_isSetting 10 (.goto 4) 3 13 := ⟨by decide +kernel, rfl⟩
theorem kX5_isSetting_13 : Dk mtX5_isSetting 13 (.iconst 0) 1 14 := ⟨by decide +kernel, rfl⟩
theorem kX5_isSetting_14 : Dk mtX5_isSetting 14 (.ireturn) 1 15 := ⟨by decide +kernel, rfl⟩
set_option maxHeartbeats 4000000 in
set_option maxRecDepth 100000 in
theorem cl_isSetting {l : Launch} {w : Wd} {sg : Sg} (hWr : Wr w) (a : Int32) : M l mtX5_isSetting w [vI a] sg (fI (b01 (inn a 0 3)) sg) := by
  refine M_of [some (vI a)] rfl (Nat.le_of_ble_eq_true rfl) (by decide +kernel) ?_
  intro p_ e_ s_ m_ args_ below_ meth_ c_ hC hO
  refine V_iload_n hC kX5_isSetting_0 rfl ?_
  refine V_if_lt hC 13 kX5_isSetting_1 (by decide) (fun h1 => ?_) (fun h1 => ?_)
  · refine V_iconst hC (0) kX5_isSetting_13 (by decide) ?_
    refine V_iretz hC rfl kX5_isSetting_14 ?_ ?_
    · first | exact Or.inl rfl | exact Or.inr rfl
    · refine ⟨cI ?_, by with_reducible rfl⟩
      first
      | exact (b01_f (fun z => absurd z.1 (Int32.not_le.mpr h1))).symm
      | exact (b01_f (fun z => absurd (lt4.mpr z.2) (Int32.not_lt.mpr h6))).symm
      | exact (b01_t ⟨Int32.not_lt.mp h1, lt4.mp (Int32.not_le.mp h6)⟩).symm
  · refine V_iload_n hC kX5_isSetting_4 rfl ?_
    refine V_iconst hC (4) kX5_isSetting_5 (by decide) ?_
    refine V_icmp_ge hC 13 kX5_isSetting_6 (by decide) (fun h6 => ?_) (fun h6 => ?_)
    · refine V_iconst hC (0) kX5_isSetting_13 (by decide) ?_
      refine V_iretz hC rfl kX5_isSetting_14 ?_ ?_
      · first | exact Or.inl rfl | exact Or.inr rfl
      · refine ⟨cI ?_, by with_reducible rfl⟩
        first
        | exact (b01_f (fun z => absurd z.1 (Int32.not_le.mpr h1))).symm
        | exact (b01_f (fun z => absurd (lt4.mpr z.2) (Int32.not_lt.mpr h6))).symm
        | exact (b01_t ⟨Int32.not_lt.mp h1, lt4.mp (Int32.not_le.mp h6)⟩).symm
    · refine V_iconst hC (1) kX5_isSetting_9 (by decide) ?_
      refine V_goto hC 14 kX5_isSetting_10 (by decide) ?_
      refine V_iretz hC rfl kX5_isSetting_14 ?_ ?_
      · first | exact Or.inl rfl | exact Or.inr rfl
      · refine ⟨cI ?_, by with_reducible rfl⟩
        first
        | exact (b01_f (fun z => absurd z.1 (Int32.not_le.mpr h1))).symm
        | exact (b01_f (fun z => absurd (lt4.mpr z.2) (Int32.not_lt.mpr h6))).symm
        | exact (b01_t ⟨Int32.not_lt.mp h1, lt4.mp (Int32.not_le.mp h6)⟩).symm
def mtX3_isSlot : Mt := (yX3_isSlot, cX3_isSlot, 1, (some .boolean), 0, 0, 0, 0)
theorem kX3_isSlot_0 : Dk mtX3_isSlot 0 (.iload_n 0) 1 1 := ⟨by decide +kernel, rfl⟩
theorem kX3_isSlot_1 : Dk mtX3_isSlot 1 (.ifCond .lt 12) 3 4 := ⟨by decide +kernel, rfl⟩
theorem kX3_isSlot_4 : Dk mtX3_isSlot 4 (.iload_n 0) 1 5 := ⟨by decide +kernel, rfl⟩
theorem kX3_isSlot_5 : Dk mtX3_isSlot 5 (.iconst 2) 1 6 := ⟨by decide +kernel, rfl⟩
theorem kX3_isSlot_6 : Dk mtX3_isSlot 6 (.if_icmp .ge 7) 3 9 := ⟨by decide +kernel, rfl⟩
theorem kX3_isSlot_9 : Dk mtX3_isSlot 9 (.iconst 1) 1 10 := ⟨by decide +kernel, rfl⟩
theorem kX3_isSlot_10 : Dk mtX3_isSlot 10 (.goto 4) 3 13 := ⟨by decide +kernel, rfl⟩
theorem kX3_isSlot_13 : Dk mtX3_isSlot 13 (.iconst 0) 1 14 := ⟨by decide +kernel, rfl⟩
theorem kX3_isSlot_14 : Dk mtX3_isSlot 14 (.ireturn) 1 15 := ⟨by decide +kernel, rfl⟩
set_option maxHeartbeats 4000000 in
set_option maxRecDepth 100000 in
theorem cl_isSlot {l : Launch} {w : Wd} {sg : Sg} (hWr : Wr w) (a : Int32) : M l mtX3_isSlot w [vI a] sg (fI (b01 (inn a 0 1)) sg) := by
  refine M_of [some (vI a)] rfl (Nat.le_of_ble_eq_true rfl) (by decide +kernel) ?_
  intro p_ e_ s_ m_ args_ below_ meth_ c_ hC hO
  refine V_iload_n hC kX3_isSlot_0 rfl ?_
  refine V_if_lt hC 13 kX3_isSlot_1 (by decide) (fun h1 => ?_) (fun h1 => ?_)
  · refine V_iconst hC (0) kX3_isSlot_13 (by decide) ?_
    refine V_iretz hC rfl kX3_isSlot_14 ?_ ?_
    · first | exact Or.inl rfl | exact Or.inr rfl
    · refine ⟨cI ?_, by with_reducible rfl⟩
      first
      | exact (b01_f (fun z => absurd z.1 (Int32.not_le.mpr h1))).symm
      | exact (b01_f (fun z => absurd (lt2.mpr z.2) (Int32.not_lt.mpr h6))).symm
      | exact (b01_t ⟨Int32.not_lt.mp h1, lt2.mp (Int32.not_le.mp h6)⟩).symm
  · refine V_iload_n hC kX3_isSlot_4 rfl ?_
    refine V_iconst hC (2) kX3_isSlot_5 (by decide) ?_
    refine V_icmp_ge hC 13 kX3_isSlot_6 (by decide) (fun h6 => ?_) (fun h6 => ?_)
    · refine V_iconst hC (0) kX3_isSlot_13 (by decide) ?_
      refine V_iretz hC rfl kX3_isSlot_14 ?_ ?_
      · first | exact Or.inl rfl | exact Or.inr rfl
      · refine ⟨cI ?_, by with_reducible rfl⟩
        first
        | exact (b01_f (fun z => absurd z.1 (Int32.not_le.mpr h1))).symm
        | exact (b01_f (fun z => absurd (lt2.mpr z.2) (Int32.not_lt.mpr h6))).symm
        | exact (b01_t ⟨Int32.not_lt.mp h1, lt2.mp (Int32.not_le.mp h6)⟩).symm
    · refine V_iconst hC (1) kX3_isSlot_9 (by decide) ?_
      refine V_goto hC 14 kX3_isSlot_10 (by decide) ?_
      refine V_iretz hC rfl kX3_isSlot_14 ?_ ?_
      · first | exact Or.inl rfl | exact Or.inr rfl
      · refine ⟨cI ?_, by with_reducible rfl⟩
        first
        | exact (b01_f (fun z => absurd z.1 (Int32.not_le.mpr h1))).symm
        | exact (b01_f (fun z => absurd (lt2.mpr z.2) (Int32.not_lt.mpr h6))).symm
        | exact (b01_t ⟨Int32.not_lt.mp h1, lt2.mp (Int32.not_le.mp h6)⟩).symm
theorem set_lo {a : Int32} (h : inn a 0 3) : srow 0 (tn a) = b01 (a = 1 ∨ a = 2) ∧ srow 1 (tn a) = F_most a := by
  obtain ⟨n, hn, rfl⟩ := vp_in_of (inn_vp (m := 4) (by decide) h) (by decide)
  rw [show tn (nI n) = n from nI_clamp (by omega)]
  obtain rfl | rfl | rfl | rfl : n = 0 ∨ n = 1 ∨ n = 2 ∨ n = 3 := by omega
  · decide
  · decide
  · decide
  · decide
def mtX5_isSettingValue : Mt := (yX5_isSettingValue, cX5_isSettingValue, 2, (some .boolean), 0, 0, 0, 0)
theorem kX5_isSettingValue_0 : Dk mtX5_isSettingValue 0 (.iload_n 0) 1 1 := ⟨by decide +kernel, rfl⟩
theorem kX5_isSettingValue_1 : Dk mtX5_isSettingValue 1 (.ifCond .lt 41) 3 4 := ⟨by decide +kernel, rfl⟩
theorem kX5_isSettingValue_4 : Dk mtX5_isSettingValue 4 (.iload_n 0) 1 5 := ⟨by decide +kernel, rfl⟩
theorem kX5_isSettingValue_5 : Dk mtX5_isSettingValue 5 (.getstatic 334) 3 8 := ⟨by decide +kernel, rfl⟩
theorem kX5_isSettingValue_8 : Dk mtX5_isSettingValue 8 (.arraylength) 1 9 := ⟨by decide +kernel, rfl⟩
theorem kX5_isSettingValue_9 : Dk mtX5_isSettingValue 9 (.if_icmp .ge 33) 3 12 := ⟨by decide +kernel, rfl⟩
theorem kX5_isSettingValue_12 : Dk mtX5_isSettingValue 12 (.iload_n 0) 1 13 := ⟨by decide +kernel, rfl⟩
theorem kX5_isSettingValue_13 : Dk mtX5_isSettingValue 13 (.getstatic 338) 3 16 := ⟨by decide +kernel, rfl⟩
theorem kX5_isSettingValue_16 : Dk mtX5_isSettingValue 16 (.arraylength) 1 17 := ⟨by decide +kernel, rfl⟩
theorem kX5_isSettingValue_17 : Dk mtX5_isSettingValue 17 (.if_icmp .ge 25) 3 20 := ⟨by decide +kernel, rfl⟩
theorem kX5_isSettingValue_20 : Dk mtX5_isSettingValue 20 (.iload_n 1) 1 21 := ⟨by decide +kernel, rfl⟩
theorem kX5_isSettingValue_21 : Dk mtX5_isSettingValue 21 (.getstatic 334) 3 24 := ⟨by decide +kernel, rfl⟩
theorem kX5_isSettingValue_24 : Dk mtX5_isSettingValue 24 (.iload_n 0) 1 25 := ⟨by decide +kernel, rfl⟩
theorem kX5_isSettingValue_25 : Dk mtX5_isSettingValue 25 (.iaload) 1 26 := ⟨by decide +kernel, rfl⟩
theorem kX5_isSettingValue_26 : Dk mtX5_isSettingValue 26 (.if_icmp .lt 16) 3 29 := ⟨by decide +kernel, rfl⟩
theorem kX5_isSettingValue_29 : Dk mtX5_isSettingValue 29 (.iload_n 1) 1 30 := ⟨by decide +kernel, rfl⟩
theorem kX5_isSettingValue_30 : Dk mtX5_isSettingValue 30 (.getstatic 338) 3 33 := ⟨by decide +kernel, rfl⟩
theorem kX5_isSettingValue_33 : Dk mtX5_isSettingValue 33 (.iload_n 0) 1 34 := ⟨by decide +kernel, rfl⟩
theorem kX5_isSettingValue_34 : Dk mtX5_isSettingValue 34 (.iaload) 1 35 := ⟨by decide +kernel, rfl⟩
theorem kX5_isSettingValue_35 : Dk mtX5_isSettingValue 35 (.if_icmp .gt 7) 3 38 := ⟨by decide +kernel, rfl⟩
theorem kX5_isSettingValue_38 : Dk mtX5_isSettingValue 38 (.iconst 1) 1 39 := ⟨by decide +kernel, rfl⟩
theorem kX5_isSettingValue_39 : Dk mtX5_isSettingValue 39 (.goto 4) 3 42 := ⟨by decide +kernel, rfl⟩
theorem kX5_isSettingValue_42 : Dk mtX5_isSettingValue 42 (.iconst 0) 1 43 := ⟨by decide +kernel, rfl⟩
theorem kX5_isSettingValue_43 : Dk mtX5_isSettingValue 43 (.ireturn) 1 44 := ⟨by decide +kernel, rfl⟩
set_option maxHeartbeats 4000000 in
set_option maxRecDepth 100000 in
theorem cl_isSettingValue {l : Launch} {w : Wd} {sg : Sg} (hWr : Wr w) (a v : Int32) : M l mtX5_isSettingValue w [vI a, vI v] sg (fI (b01 (cSet a v)) sg) := by
  refine M_of [some (vI a), some (vI v)] rfl (Nat.le_of_ble_eq_true rfl) (by decide +kernel) ?_
  intro p_ e_ s_ m_ args_ below_ meth_ c_ hC hO
  refine V_iload_n hC kX5_isSettingValue_0 rfl ?_
  refine V_if_lt hC 42 kX5_isSettingValue_1 (by decide) (fun h1 => ?_) (fun h1 => ?_)
  · refine V_iconst hC (0) kX5_isSettingValue_42 (by decide) ?_
    refine V_iretz hC rfl kX5_isSettingValue_43 ?_ ?_
    · first | exact Or.inl rfl | exact Or.inr rfl
    · refine ⟨cI ?_, by with_reducible rfl⟩
      first
      | exact (b01_f (fun z => absurd z.1.1 (Int32.not_le.mpr h1))).symm
      | exact (b01_f (fun z => absurd (lt4.mpr z.1.2) (Int32.not_lt.mpr h9))).symm
      | exact (b01_f (fun z => absurd z.2.1 (Int32.not_le.mpr (by rw [← e1]; exact h26)))).symm
      | exact (b01_f (fun z => absurd z.2.2 (Int32.not_le.mpr (by rw [← e2]; exact h35)))).symm
      | exact (b01_t ⟨hin, by rw [← e1]; exact Int32.not_lt.mp h26, by rw [← e2]; exact Int32.not_lt.mp h35⟩).symm
  · refine V_iload_n hC kX5_isSettingValue_4 rfl ?_
    refine V_gets hC 0 (by decide +kernel) kX5_isSettingValue_5 (Nat.le_of_ble_eq_true rfl) ?_
    refine V_slen hC _ kX5_isSettingValue_8 rfl ?_
    refine V_icmp_ge hC 42 kX5_isSettingValue_9 (by decide) (fun h9 => ?_) (fun h9 => ?_)
    · refine V_iconst hC (0) kX5_isSettingValue_42 (by decide) ?_
      refine V_iretz hC rfl kX5_isSettingValue_43 ?_ ?_
      · first | exact Or.inl rfl | exact Or.inr rfl
      · refine ⟨cI ?_, by with_reducible rfl⟩
        first
        | exact (b01_f (fun z => absurd z.1.1 (Int32.not_le.mpr h1))).symm
        | exact (b01_f (fun z => absurd (lt4.mpr z.1.2) (Int32.not_lt.mpr h9))).symm
        | exact (b01_f (fun z => absurd z.2.1 (Int32.not_le.mpr (by rw [← e1]; exact h26)))).symm
        | exact (b01_f (fun z => absurd z.2.2 (Int32.not_le.mpr (by rw [← e2]; exact h35)))).symm
        | exact (b01_t ⟨hin, by rw [← e1]; exact Int32.not_lt.mp h26, by rw [← e2]; exact Int32.not_lt.mp h35⟩).symm
    · refine V_iload_n hC kX5_isSettingValue_12 rfl ?_
      refine V_gets hC 1 (by decide +kernel) kX5_isSettingValue_13 (Nat.le_of_ble_eq_true rfl) ?_
      refine V_slen hC _ kX5_isSettingValue_16 rfl ?_
      refine V_icmp_ge hC 42 kX5_isSettingValue_17 (by decide) (fun h17 => absurd h17 h9) (fun h17 => ?_)
      have hin : inn a 0 3 := ⟨Int32.not_lt.mp h1, lt4.mp (Int32.not_le.mp h9)⟩
      obtain ⟨e1, e2⟩ := set_lo hin
      refine V_iload_n hC kX5_isSettingValue_20 rfl ?_
      refine V_gets hC 0 (by decide +kernel) kX5_isSettingValue_21 (Nat.le_of_ble_eq_true rfl) ?_
      refine V_iload_n hC kX5_isSettingValue_24 rfl ?_
      refine V_sald hC _ rfl kX5_isSettingValue_25 (inn_vp (by decide) hin) ?_
      refine V_icmp_lt hC 42 kX5_isSettingValue_26 (by decide) (fun h26 => ?_) (fun h26 => ?_)
      · refine V_iconst hC (0) kX5_isSettingValue_42 (by decide) ?_
        refine V_iretz hC rfl kX5_isSettingValue_43 ?_ ?_
        · first | exact Or.inl rfl | exact Or.inr rfl
        · refine ⟨cI ?_, by with_reducible rfl⟩
          first
          | exact (b01_f (fun z => absurd z.1.1 (Int32.not_le.mpr h1))).symm
          | exact (b01_f (fun z => absurd (lt4.mpr z.1.2) (Int32.not_lt.mpr h9))).symm
          | exact (b01_f (fun z => absurd z.2.1 (Int32.not_le.mpr (by rw [← e1]; exact h26)))).symm
          | exact (b01_f (fun z => absurd z.2.2 (Int32.not_le.mpr (by rw [← e2]; exact h35)))).symm
          | exact (b01_t ⟨hin, by rw [← e1]; exact Int32.not_lt.mp h26, by rw [← e2]; exact Int32.not_lt.mp h35⟩).symm
      · refine V_iload_n hC kX5_isSettingValue_29 rfl ?_
        refine V_gets hC 1 (by decide +kernel) kX5_isSettingValue_30 (Nat.le_of_ble_eq_true rfl) ?_
        refine V_iload_n hC kX5_isSettingValue_33 rfl ?_
        refine V_sald hC _ rfl kX5_isSettingValue_34 (inn_vp (by decide) hin) ?_
        refine V_icmp_gt hC 42 kX5_isSettingValue_35 (by decide) (fun h35 => ?_) (fun h35 => ?_)
        · refine V_iconst hC (0) kX5_isSettingValue_42 (by decide) ?_
          refine V_iretz hC rfl kX5_isSettingValue_43 ?_ ?_
          · first | exact Or.inl rfl | exact Or.inr rfl
          · refine ⟨cI ?_, by with_reducible rfl⟩
            first
            | exact (b01_f (fun z => absurd z.1.1 (Int32.not_le.mpr h1))).symm
            | exact (b01_f (fun z => absurd (lt4.mpr z.1.2) (Int32.not_lt.mpr h9))).symm
            | exact (b01_f (fun z => absurd z.2.1 (Int32.not_le.mpr (by rw [← e1]; exact h26)))).symm
            | exact (b01_f (fun z => absurd z.2.2 (Int32.not_le.mpr (by rw [← e2]; exact h35)))).symm
            | exact (b01_t ⟨hin, by rw [← e1]; exact Int32.not_lt.mp h26, by rw [← e2]; exact Int32.not_lt.mp h35⟩).symm
        · refine V_iconst hC (1) kX5_isSettingValue_38 (by decide) ?_
          refine V_goto hC 43 kX5_isSettingValue_39 (by decide) ?_
          refine V_iretz hC rfl kX5_isSettingValue_43 ?_ ?_
          · first | exact Or.inl rfl | exact Or.inr rfl
          · refine ⟨cI ?_, by with_reducible rfl⟩
            first
            | exact (b01_f (fun z => absurd z.1.1 (Int32.not_le.mpr h1))).symm
            | exact (b01_f (fun z => absurd (lt4.mpr z.1.2) (Int32.not_lt.mpr h9))).symm
            | exact (b01_f (fun z => absurd z.2.1 (Int32.not_le.mpr (by rw [← e1]; exact h26)))).symm
            | exact (b01_f (fun z => absurd z.2.2 (Int32.not_le.mpr (by rw [← e2]; exact h35)))).symm
            | exact (b01_t ⟨hin, by rw [← e1]; exact Int32.not_lt.mp h26, by rw [← e2]; exact Int32.not_lt.mp h35⟩).symm
def mtX5_shown : Mt := (yX5_shown, cX5_shown, 1, (some .int), 0, 0, 0, 0)
theorem kX5_shown_0 : Dk mtX5_shown 0 (.iload_n 0) 1 1 := ⟨by decide +kernel, rfl⟩
theorem kX5_shown_1 : Dk mtX5_shown 1 (.bipush 99) 2 3 := ⟨by decide +kernel, rfl⟩
theorem kX5_shown_3 : Dk mtX5_shown 3 (.if_icmp .le 8) 3 6 := ⟨by decide +kernel, rfl⟩
theorem kX5_shown_6 : Dk mtX5_shown 6 (.bipush 99) 2 8 := ⟨by decide +kernel, rfl⟩
theorem kX5_shown_8 : Dk mtX5_shown 8 (.goto 4) 3 11 := ⟨by decide +kernel, rfl⟩
theorem kX5_shown_11 : Dk mtX5_shown 11 (.iload_n 0) 1 12 := ⟨by decide +kernel, rfl⟩
theorem kX5_shown_12 : Dk mtX5_shown 12 (.ireturn) 1 13 := ⟨by decide +kernel, rfl⟩
set_option maxHeartbeats 4000000 in
set_option maxRecDepth 100000 in
theorem cl_shown {l : Launch} {w : Wd} {sg : Sg} (hWr : Wr w) (a : Int32) : M l mtX5_shown w [vI a] sg (fI (F_held a) sg) := by
  refine M_of [some (vI a)] rfl (Nat.le_of_ble_eq_true rfl) (by decide +kernel) ?_
  intro p_ e_ s_ m_ args_ below_ meth_ c_ hC hO
  refine V_iload_n hC kX5_shown_0 rfl ?_
  refine V_bipush hC (99) kX5_shown_1 (by decide) ?_
  refine V_icmp_le hC 11 kX5_shown_3 (by decide) (fun h3 => ?_) (fun h3 => ?_)
  · refine V_iload_n hC kX5_shown_11 rfl ?_
    refine V_ireti hC rfl kX5_shown_12 ?_
    refine ⟨cI ?_, by with_reducible rfl⟩
    first
    | (rw [F_held, if_neg (Int32.not_lt.mpr h3)]; done)
    | (rw [F_held, if_pos (Int32.not_le.mp h3)]; done)
  · refine V_bipush hC (99) kX5_shown_6 (by decide) ?_
    refine V_goto hC 12 kX5_shown_8 (by decide) ?_
    refine V_ireti hC rfl kX5_shown_12 ?_
    refine ⟨cI ?_, by with_reducible rfl⟩
    first
    | (rw [F_held, if_neg (Int32.not_lt.mpr h3)]; done)
    | (rw [F_held, if_pos (Int32.not_le.mp h3)]; done)
def mtX2_begin : Mt := (yX2_begin, cX2_begin, 7, none, 0, 0, 0, 0)
theorem kX2_begin_0 : Dk mtX2_begin 0 (.aload_n 0) 1 1 := ⟨by decide +kernel, rfl⟩
theorem kX2_begin_1 : Dk mtX2_begin 1 (.iload_n 1) 1 2 := ⟨by decide +kernel, rfl⟩
theorem kX2_begin_2 : Dk mtX2_begin 2 (.putfield 9) 3 5 := ⟨by decide +kernel, rfl⟩
theorem kX2_begin_5 : Dk mtX2_begin 5 (.aload_n 0) 1 6 := ⟨by decide +kernel, rfl⟩
theorem kX2_begin_6 : Dk mtX2_begin 6 (.iload_n 2) 1 7 := ⟨by decide +kernel, rfl⟩
theorem kX2_begin_7 : Dk mtX2_begin 7 (.putfield 15) 3 10 := ⟨by decide +kernel, rfl⟩
theorem kX2_begin_10 : Dk mtX2_begin 10 (.aload_n 0) 1 11 := ⟨by decide +kernel, rfl⟩
theorem kX2_begin_11 : Dk mtX2_begin 11 (.iload_n 3) 1 12 := ⟨by decide +kernel, rfl⟩
theorem kX2_begin_12 : Dk mtX2_begin 12 (.putfield 18) 3 15 := ⟨by decide +kernel, rfl⟩
theorem kX2_begin_15 : Dk mtX2_begin 15 (.aload_n 0) 1 16 := ⟨by decide +kernel, rfl⟩
theorem kX2_begin_16 : Dk mtX2_begin 16 (.iload 4) 2 18 := ⟨by decide +kernel, rfl⟩
theorem kX2_begin_18 : Dk mtX2_begin 18 (.putfield 21) 3 21 := ⟨by decide +kernel, rfl⟩
theorem kX2_begin_21 : Dk mtX2_begin 21 (.aload_n 0) 1 22 := ⟨by decide +kernel, rfl⟩
theorem kX2_begin_22 : Dk mtX2_begin 22 (.iload 5) 2 24 := ⟨by decide +kernel, rfl⟩
theorem kX2_begin_24 : Dk mtX2_begin 24 (.putfield 24) 3 27 := ⟨by decide +kernel, rfl⟩
theorem kX2_begin_27 : Dk mtX2_begin 27 (.aload_n 0) 1 28 := ⟨by decide +kernel, rfl⟩
theorem kX2_begin_28 : Dk mtX2_begin 28 (.iload 6) 2 30 := ⟨by decide +kernel, rfl⟩
theorem kX2_begin_30 : Dk mtX2_begin 30 (.putfield 27) 3 33 := ⟨by decide +kernel, rfl⟩
theorem kX2_begin_33 : Dk mtX2_begin 33 (.aload_n 0) 1 34 := ⟨by decide +kernel, rfl⟩
theorem kX2_begin_34 : Dk mtX2_begin 34 (.iconst 0) 1 35 := ⟨by decide +kernel, rfl⟩
theorem kX2_begin_35 : Dk mtX2_begin 35 (.putfield 30) 3 38 := ⟨by decide +kernel, rfl⟩
theorem kX2_begin_38 : Dk mtX2_begin 38 (.aload_n 0) 1 39 := ⟨by decide +kernel, rfl⟩
theorem kX2_begin_39 : Dk mtX2_begin 39 (.iconst 0) 1 40 := ⟨by decide +kernel, rfl⟩
theorem kX2_begin_40 : Dk mtX2_begin 40 (.putfield 33) 3 43 := ⟨by decide +kernel, rfl⟩
theorem kX2_begin_43 : Dk mtX2_begin 43 (.aload_n 0) 1 44 := ⟨by decide +kernel, rfl⟩
theorem kX2_begin_44 : Dk mtX2_begin 44 (.iconst 0) 1 45 := ⟨by decide +kernel, rfl⟩
theorem kX2_begin_45 : Dk mtX2_begin 45 (.putfield 36) 3 48 := ⟨by decide +kernel, rfl⟩
theorem kX2_begin_48 : Dk mtX2_begin 48 (.return_) 1 49 := ⟨by decide +kernel, rfl⟩
theorem lfX2_9 : LkF RX2 9 2 0 := Or.inl (by decide +kernel)
theorem lfX2_15 : LkF RX2 15 2 1 := Or.inl (by decide +kernel)
theorem lfX2_18 : LkF RX2 18 2 2 := Or.inl (by decide +kernel)
theorem lfX2_21 : LkF RX2 21 2 3 := Or.inl (by decide +kernel)
theorem lfX2_24 : LkF RX2 24 2 4 := Or.inl (by decide +kernel)
theorem lfX2_27 : LkF RX2 27 2 5 := Or.inl (by decide +kernel)
theorem lfX2_30 : LkF RX2 30 2 6 := Or.inl (by decide +kernel)
theorem lfX2_33 : LkF RX2 33 2 7 := Or.inl (by decide +kernel)
theorem lfX2_36 : LkF RX2 36 2 8 := Or.inl (by decide +kernel)
set_option maxHeartbeats 4000000 in
set_option maxRecDepth 100000 in
theorem cl_lbegin {l : Launch} {w : Wd} {sg : Sg} (hWr : Wr w) {k : Nat} (q st kd n bo re : Int32) : M l mtX2_begin w [vR (some (2, 0, k)), vI q, vI st, vI kd, vI n, vI bo, vI re] sg (fV0 (upr sg k (upd (upd (upd (upd (upd (upd (upd (upd (upd (sg k) 0 q) 1 st) 2 kd) 3 n) 4 bo) 5 re) 6 0) 7 0) 8 0))) := by
  refine M_of [some (vR (some (2, 0, k))), some (vI q), some (vI st), some (vI kd), some (vI n), some (vI bo), some (vI re)] rfl (Nat.le_of_ble_eq_true rfl) (by decide +kernel) ?_
  intro p_ e_ s_ m_ args_ below_ meth_ c_ hC hO
  refine V_aload_n hC kX2_begin_0 rfl ?_
  refine V_iload_n hC kX2_begin_1 rfl ?_
  refine V_putI hC 2 0 lfX2_9 kX2_begin_2 (Nat.le_of_ble_eq_true rfl) (Nat.le_of_ble_eq_true rfl) rfl rfl ⟨rfl, rfl⟩ ?_
  refine V_aload_n hC kX2_begin_5 rfl ?_
  refine V_iload_n hC kX2_begin_6 rfl ?_
  refine V_putI hC 2 1 lfX2_15 kX2_begin_7 (Nat.le_of_ble_eq_true rfl) (Nat.le_of_ble_eq_true rfl) rfl rfl ⟨rfl, rfl⟩ ?_
  refine V_aload_n hC kX2_begin_10 rfl ?_
  refine V_iload_n hC kX2_begin_11 rfl ?_
  refine V_putI hC 2 2 lfX2_18 kX2_begin_12 (Nat.le_of_ble_eq_true rfl) (Nat.le_of_ble_eq_true rfl) rfl rfl ⟨rfl, rfl⟩ ?_
  refine V_aload_n hC kX2_begin_15 rfl ?_
  refine V_iload hC kX2_begin_16 rfl ?_
  refine V_putI hC 2 3 lfX2_21 kX2_begin_18 (Nat.le_of_ble_eq_true rfl) (Nat.le_of_ble_eq_true rfl) rfl rfl ⟨rfl, rfl⟩ ?_
  refine V_aload_n hC kX2_begin_21 rfl ?_
  refine V_iload hC kX2_begin_22 rfl ?_
  refine V_putI hC 2 4 lfX2_24 kX2_begin_24 (Nat.le_of_ble_eq_true rfl) (Nat.le_of_ble_eq_true rfl) rfl rfl ⟨rfl, rfl⟩ ?_
  refine V_aload_n hC kX2_begin_27 rfl ?_
  refine V_iload hC kX2_begin_28 rfl ?_
  refine V_putI hC 2 5 lfX2_27 kX2_begin_30 (Nat.le_of_ble_eq_true rfl) (Nat.le_of_ble_eq_true rfl) rfl rfl ⟨rfl, rfl⟩ ?_
  refine V_aload_n hC kX2_begin_33 rfl ?_
  refine V_iconst hC (0) kX2_begin_34 (by decide) ?_
  refine V_putI hC 2 6 lfX2_30 kX2_begin_35 (Nat.le_of_ble_eq_true rfl) (Nat.le_of_ble_eq_true rfl) rfl rfl ⟨rfl, rfl⟩ ?_
  refine V_aload_n hC kX2_begin_38 rfl ?_
  refine V_iconst hC (0) kX2_begin_39 (by decide) ?_
  refine V_putI hC 2 7 lfX2_33 kX2_begin_40 (Nat.le_of_ble_eq_true rfl) (Nat.le_of_ble_eq_true rfl) rfl rfl ⟨rfl, rfl⟩ ?_
  refine V_aload_n hC kX2_begin_43 rfl ?_
  refine V_iconst hC (0) kX2_begin_44 (by decide) ?_
  refine V_putI hC 2 8 lfX2_36 kX2_begin_45 (Nat.le_of_ble_eq_true rfl) (Nat.le_of_ble_eq_true rfl) rfl rfl ⟨rfl, rfl⟩ ?_
  refine V_vret hC rfl kX2_begin_48 ?_
  refine ⟨by with_reducible rfl, ?_⟩
  simp only [ups, upr_at, upr_upr]
def mtX2_copyFrom : Mt := (yX2_copyFrom, cX2_copyFrom, 2, none, 0, 0, 0, 0)
theorem kX2_copyFrom_0 : Dk mtX2_copyFrom 0 (.aload_n 0) 1 1 := ⟨by decide +kernel, rfl⟩
theorem kX2_copyFrom_1 : Dk mtX2_copyFrom 1 (.aload_n 1) 1 2 := ⟨by decide +kernel, rfl⟩
theorem kX2_copyFrom_2 : Dk mtX2_copyFrom 2 (.getfield 9) 3 5 := ⟨by decide +kernel, rfl⟩
theorem kX2_copyFrom_5 : Dk mtX2_copyFrom 5 (.putfield 9) 3 8 := ⟨by decide +kernel, rfl⟩
theorem kX2_copyFrom_8 : Dk mtX2_copyFrom 8 (.aload_n 0) 1 9 := ⟨by decide +kernel, rfl⟩
theorem kX2_copyFrom_9 : Dk mtX2_copyFrom 9 (.aload_n 1) 1 10 := ⟨by decide +kernel, rfl⟩
theorem kX2_copyFrom_10 : Dk mtX2_copyFrom 10 (.getfield 15) 3 13 := ⟨by decide +kernel, rfl⟩
theorem kX2_copyFrom_13 : Dk mtX2_copyFrom 13 (.putfield 15) 3 16 := ⟨by decide +kernel, rfl⟩
theorem kX2_copyFrom_16 : Dk mtX2_copyFrom 16 (.aload_n 0) 1 17 := ⟨by decide +kernel, rfl⟩
theorem kX2_copyFrom_17 : Dk mtX2_copyFrom 17 (.aload_n 1) 1 18 := ⟨by decide +kernel, rfl⟩
theorem kX2_copyFrom_18 : Dk mtX2_copyFrom 18 (.getfield 18) 3 21 := ⟨by decide +kernel, rfl⟩
theorem kX2_copyFrom_21 : Dk mtX2_copyFrom 21 (.putfield 18) 3 24 := ⟨by decide +kernel, rfl⟩
theorem kX2_copyFrom_24 : Dk mtX2_copyFrom 24 (.aload_n 0) 1 25 := ⟨by decide +kernel, rfl⟩
theorem kX2_copyFrom_25 : Dk mtX2_copyFrom 25 (.aload_n 1) 1 26 := ⟨by decide +kernel, rfl⟩
theorem kX2_copyFrom_26 : Dk mtX2_copyFrom 26 (.getfield 21) 3 29 := ⟨by decide +kernel, rfl⟩
theorem kX2_copyFrom_29 : Dk mtX2_copyFrom 29 (.putfield 21) 3 32 := ⟨by decide +kernel, rfl⟩
theorem kX2_copyFrom_32 : Dk mtX2_copyFrom 32 (.aload_n 0) 1 33 := ⟨by decide +kernel, rfl⟩
theorem kX2_copyFrom_33 : Dk mtX2_copyFrom 33 (.aload_n 1) 1 34 := ⟨by decide +kernel, rfl⟩
theorem kX2_copyFrom_34 : Dk mtX2_copyFrom 34 (.getfield 24) 3 37 := ⟨by decide +kernel, rfl⟩
theorem kX2_copyFrom_37 : Dk mtX2_copyFrom 37 (.putfield 24) 3 40 := ⟨by decide +kernel, rfl⟩
theorem kX2_copyFrom_40 : Dk mtX2_copyFrom 40 (.aload_n 0) 1 41 := ⟨by decide +kernel, rfl⟩
theorem kX2_copyFrom_41 : Dk mtX2_copyFrom 41 (.aload_n 1) 1 42 := ⟨by decide +kernel, rfl⟩
theorem kX2_copyFrom_42 : Dk mtX2_copyFrom 42 (.getfield 27) 3 45 := ⟨by decide +kernel, rfl⟩
theorem kX2_copyFrom_45 : Dk mtX2_copyFrom 45 (.putfield 27) 3 48 := ⟨by decide +kernel, rfl⟩
theorem kX2_copyFrom_48 : Dk mtX2_copyFrom 48 (.aload_n 0) 1 49 := ⟨by decide +kernel, rfl⟩
theorem kX2_copyFrom_49 : Dk mtX2_copyFrom 49 (.aload_n 1) 1 50 := ⟨by decide +kernel, rfl⟩
theorem kX2_copyFrom_50 : Dk mtX2_copyFrom 50 (.getfield 30) 3 53 := ⟨by decide +kernel, rfl⟩
theorem kX2_copyFrom_53 : Dk mtX2_copyFrom 53 (.putfield 30) 3 56 := ⟨by decide +kernel, rfl⟩
theorem kX2_copyFrom_56 : Dk mtX2_copyFrom 56 (.aload_n 0) 1 57 := ⟨by decide +kernel, rfl⟩
theorem kX2_copyFrom_57 : Dk mtX2_copyFrom 57 (.aload_n 1) 1 58 := ⟨by decide +kernel, rfl⟩
theorem kX2_copyFrom_58 : Dk mtX2_copyFrom 58 (.getfield 33) 3 61 := ⟨by decide +kernel, rfl⟩
theorem kX2_copyFrom_61 : Dk mtX2_copyFrom 61 (.putfield 33) 3 64 := ⟨by decide +kernel, rfl⟩
theorem kX2_copyFrom_64 : Dk mtX2_copyFrom 64 (.aload_n 0) 1 65 := ⟨by decide +kernel, rfl⟩
theorem kX2_copyFrom_65 : Dk mtX2_copyFrom 65 (.aload_n 1) 1 66 := ⟨by decide +kernel, rfl⟩
theorem kX2_copyFrom_66 : Dk mtX2_copyFrom 66 (.getfield 36) 3 69 := ⟨by decide +kernel, rfl⟩
theorem kX2_copyFrom_69 : Dk mtX2_copyFrom 69 (.putfield 36) 3 72 := ⟨by decide +kernel, rfl⟩
theorem kX2_copyFrom_72 : Dk mtX2_copyFrom 72 (.return_) 1 73 := ⟨by decide +kernel, rfl⟩
set_option maxHeartbeats 4000000 in
set_option maxRecDepth 100000 in
theorem cl_lcopy {l : Launch} {w : Wd} {sg : Sg} (hWr : Wr w) {k k2 : Nat} (hk : k2 ≠ k) : M l mtX2_copyFrom w [vR (some (2, 0, k)), vR (some (2, 0, k2))] sg (fV0 (upr sg k (upd (upd (upd (upd (upd (upd (upd (upd (upd (sg k) 0 (sg k2 0)) 1 (sg k2 1)) 2 (sg k2 2)) 3 (sg k2 3)) 4 (sg k2 4)) 5 (sg k2 5)) 6 (sg k2 6)) 7 (sg k2 7)) 8 (sg k2 8)))) := by
  refine M_of [some (vR (some (2, 0, k))), some (vR (some (2, 0, k2)))] rfl (Nat.le_of_ble_eq_true rfl) (by decide +kernel) ?_
  intro p_ e_ s_ m_ args_ below_ meth_ c_ hC hO
  refine V_aload_n hC kX2_copyFrom_0 rfl ?_
  refine V_aload_n hC kX2_copyFrom_1 rfl ?_
  refine V_getI hC 2 0 lfX2_9 kX2_copyFrom_2 (Nat.le_of_ble_eq_true rfl) (Nat.le_of_ble_eq_true rfl) rfl ?_
  refine V_putI hC 2 0 lfX2_9 kX2_copyFrom_5 (Nat.le_of_ble_eq_true rfl) (Nat.le_of_ble_eq_true rfl) rfl rfl ⟨rfl, rfl⟩ ?_
  refine V_canon (upr sg k (upd (sg k) 0 (sg k2 0))) rfl ?_
  refine V_aload_n hC kX2_copyFrom_8 rfl ?_
  refine V_aload_n hC kX2_copyFrom_9 rfl ?_
  refine V_getI hC 2 1 lfX2_15 kX2_copyFrom_10 (Nat.le_of_ble_eq_true rfl) (Nat.le_of_ble_eq_true rfl) rfl ?_
  refine V_putI hC 2 1 lfX2_15 kX2_copyFrom_13 (Nat.le_of_ble_eq_true rfl) (Nat.le_of_ble_eq_true rfl) rfl rfl ⟨rfl, rfl⟩ ?_
  refine V_canon (upr sg k (upd (upd (sg k) 0 (sg k2 0)) 1 (sg k2 1))) (by unfold ups; rw [upr_at, upr_upr, upr_ne _ _ hk]) ?_
  refine V_aload_n hC kX2_copyFrom_16 rfl ?_
  refine V_aload_n hC kX2_copyFrom_17 rfl ?_
  refine V_getI hC 2 2 lfX2_18 kX2_copyFrom_18 (Nat.le_of_ble_eq_true rfl) (Nat.le_of_ble_eq_true rfl) rfl ?_
  refine V_putI hC 2 2 lfX2_18 kX2_copyFrom_21 (Nat.le_of_ble_eq_true rfl) (Nat.le_of_ble_eq_true rfl) rfl rfl ⟨rfl, rfl⟩ ?_
  refine V_canon (upr sg k (upd (upd (upd (sg k) 0 (sg k2 0)) 1 (sg k2 1)) 2 (sg k2 2))) (by unfold ups; rw [upr_at, upr_upr, upr_ne _ _ hk]) ?_
  refine V_aload_n hC kX2_copyFrom_24 rfl ?_
  refine V_aload_n hC kX2_copyFrom_25 rfl ?_
  refine V_getI hC 2 3 lfX2_21 kX2_copyFrom_26 (Nat.le_of_ble_eq_true rfl) (Nat.le_of_ble_eq_true rfl) rfl ?_
  refine V_putI hC 2 3 lfX2_21 kX2_copyFrom_29 (Nat.le_of_ble_eq_true rfl) (Nat.le_of_ble_eq_true rfl) rfl rfl ⟨rfl, rfl⟩ ?_
  refine V_canon (upr sg k (upd (upd (upd (upd (sg k) 0 (sg k2 0)) 1 (sg k2 1)) 2 (sg k2 2)) 3 (sg k2 3))) (by unfold ups; rw [upr_at, upr_upr, upr_ne _ _ hk]) ?_
  refine V_aload_n hC kX2_copyFrom_32 rfl ?_
  refine V_aload_n hC kX2_copyFrom_33 rfl ?_
  refine V_getI hC 2 4 lfX2_24 kX2_copyFrom_34 (Nat.le_of_ble_eq_true rfl) (Nat.le_of_ble_eq_true rfl) rfl ?_
  refine V_putI hC 2 4 lfX2_24 kX2_copyFrom_37 (Nat.le_of_ble_eq_true rfl) (Nat.le_of_ble_eq_true rfl) rfl rfl ⟨rfl, rfl⟩ ?_
  refine V_canon (upr sg k (upd (upd (upd (upd (upd (sg k) 0 (sg k2 0)) 1 (sg k2 1)) 2 (sg k2 2)) 3 (sg k2 3)) 4 (sg k2 4))) (by unfold ups; rw [upr_at, upr_upr, upr_ne _ _ hk]) ?_
  refine V_aload_n hC kX2_copyFrom_40 rfl ?_
  refine V_aload_n hC kX2_copyFrom_41 rfl ?_
  refine V_getI hC 2 5 lfX2_27 kX2_copyFrom_42 (Nat.le_of_ble_eq_true rfl) (Nat.le_of_ble_eq_true rfl) rfl ?_
  refine V_putI hC 2 5 lfX2_27 kX2_copyFrom_45 (Nat.le_of_ble_eq_true rfl) (Nat.le_of_ble_eq_true rfl) rfl rfl ⟨rfl, rfl⟩ ?_
  refine V_canon (upr sg k (upd (upd (upd (upd (upd (upd (sg k) 0 (sg k2 0)) 1 (sg k2 1)) 2 (sg k2 2)) 3 (sg k2 3)) 4 (sg k2 4)) 5 (sg k2 5))) (by unfold ups; rw [upr_at, upr_upr, upr_ne _ _ hk]) ?_
  refine V_aload_n hC kX2_copyFrom_48 rfl ?_
  refine V_aload_n hC kX2_copyFrom_49 rfl ?_
  refine V_getI hC 2 6 lfX2_30 kX2_copyFrom_50 (Nat.le_of_ble_eq_true rfl) (Nat.le_of_ble_eq_true rfl) rfl ?_
  refine V_putI hC 2 6 lfX2_30 kX2_copyFrom_53 (Nat.le_of_ble_eq_true rfl) (Nat.le_of_ble_eq_true rfl) rfl rfl ⟨rfl, rfl⟩ ?_
  refine V_canon (upr sg k (upd (upd (upd (upd (upd (upd (upd (sg k) 0 (sg k2 0)) 1 (sg k2 1)) 2 (sg k2 2)) 3 (sg k2 3)) 4 (sg k2 4)) 5 (sg k2 5)) 6 (sg k2 6))) (by unfold ups; rw [upr_at, upr_upr, upr_ne _ _ hk]) ?_
  refine V_aload_n hC kX2_copyFrom_56 rfl ?_
  refine V_aload_n hC kX2_copyFrom_57 rfl ?_
  refine V_getI hC 2 7 lfX2_33 kX2_copyFrom_58 (Nat.le_of_ble_eq_true rfl) (Nat.le_of_ble_eq_true rfl) rfl ?_
  refine V_putI hC 2 7 lfX2_33 kX2_copyFrom_61 (Nat.le_of_ble_eq_true rfl) (Nat.le_of_ble_eq_true rfl) rfl rfl ⟨rfl, rfl⟩ ?_
  refine V_canon (upr sg k (upd (upd (upd (upd (upd (upd (upd (upd (sg k) 0 (sg k2 0)) 1 (sg k2 1)) 2 (sg k2 2)) 3 (sg k2 3)) 4 (sg k2 4)) 5 (sg k2 5)) 6 (sg k2 6)) 7 (sg k2 7))) (by unfold ups; rw [upr_at, upr_upr, upr_ne _ _ hk]) ?_
  refine V_aload_n hC kX2_copyFrom_64 rfl ?_
  refine V_aload_n hC kX2_copyFrom_65 rfl ?_
  refine V_getI hC 2 8 lfX2_36 kX2_copyFrom_66 (Nat.le_of_ble_eq_true rfl) (Nat.le_of_ble_eq_true rfl) rfl ?_
  refine V_putI hC 2 8 lfX2_36 kX2_copyFrom_69 (Nat.le_of_ble_eq_true rfl) (Nat.le_of_ble_eq_true rfl) rfl rfl ⟨rfl, rfl⟩ ?_
  refine V_canon (upr sg k (upd (upd (upd (upd (upd (upd (upd (upd (upd (sg k) 0 (sg k2 0)) 1 (sg k2 1)) 2 (sg k2 2)) 3 (sg k2 3)) 4 (sg k2 4)) 5 (sg k2 5)) 6 (sg k2 6)) 7 (sg k2 7)) 8 (sg k2 8))) (by unfold ups; rw [upr_at, upr_upr, upr_ne _ _ hk]) ?_
  refine V_vret hC rfl kX2_copyFrom_72 ?_
  exact ⟨by with_reducible rfl, by with_reducible rfl⟩
def mtX0_copyFrom : Mt := (yX0_copyFrom, cX0_copyFrom, 2, none, 0, 0, 0, 0)
theorem kX0_copyFrom_0 : Dk mtX0_copyFrom 0 (.aload_n 0) 1 1 := ⟨by decide +kernel, rfl⟩
theorem kX0_copyFrom_1 : Dk mtX0_copyFrom 1 (.aload_n 1) 1 2 := ⟨by decide +kernel, rfl⟩
theorem kX0_copyFrom_2 : Dk mtX0_copyFrom 2 (.getfield 15) 3 5 := ⟨by decide +kernel, rfl⟩
theorem kX0_copyFrom_5 : Dk mtX0_copyFrom 5 (.putfield 15) 3 8 := ⟨by decide +kernel, rfl⟩
theorem kX0_copyFrom_8 : Dk mtX0_copyFrom 8 (.aload_n 0) 1 9 := ⟨by decide +kernel, rfl⟩
theorem kX0_copyFrom_9 : Dk mtX0_copyFrom 9 (.aload_n 1) 1 10 := ⟨by decide +kernel, rfl⟩
theorem kX0_copyFrom_10 : Dk mtX0_copyFrom 10 (.getfield 18) 3 13 := ⟨by decide +kernel, rfl⟩
theorem kX0_copyFrom_13 : Dk mtX0_copyFrom 13 (.putfield 18) 3 16 := ⟨by decide +kernel, rfl⟩
theorem kX0_copyFrom_16 : Dk mtX0_copyFrom 16 (.aload_n 0) 1 17 := ⟨by decide +kernel, rfl⟩
theorem kX0_copyFrom_17 : Dk mtX0_copyFrom 17 (.aload_n 1) 1 18 := ⟨by decide +kernel, rfl⟩
theorem kX0_copyFrom_18 : Dk mtX0_copyFrom 18 (.getfield 21) 3 21 := ⟨by decide +kernel, rfl⟩
theorem kX0_copyFrom_21 : Dk mtX0_copyFrom 21 (.putfield 21) 3 24 := ⟨by decide +kernel, rfl⟩
theorem kX0_copyFrom_24 : Dk mtX0_copyFrom 24 (.aload_n 0) 1 25 := ⟨by decide +kernel, rfl⟩
theorem kX0_copyFrom_25 : Dk mtX0_copyFrom 25 (.aload_n 1) 1 26 := ⟨by decide +kernel, rfl⟩
theorem kX0_copyFrom_26 : Dk mtX0_copyFrom 26 (.getfield 24) 3 29 := ⟨by decide +kernel, rfl⟩
theorem kX0_copyFrom_29 : Dk mtX0_copyFrom 29 (.putfield 24) 3 32 := ⟨by decide +kernel, rfl⟩
theorem kX0_copyFrom_32 : Dk mtX0_copyFrom 32 (.aload_n 0) 1 33 := ⟨by decide +kernel, rfl⟩
theorem kX0_copyFrom_33 : Dk mtX0_copyFrom 33 (.aload_n 1) 1 34 := ⟨by decide +kernel, rfl⟩
theorem kX0_copyFrom_34 : Dk mtX0_copyFrom 34 (.getfield 27) 3 37 := ⟨by decide +kernel, rfl⟩
theorem kX0_copyFrom_37 : Dk mtX0_copyFrom 37 (.putfield 27) 3 40 := ⟨by decide +kernel, rfl⟩
theorem kX0_copyFrom_40 : Dk mtX0_copyFrom 40 (.aload_n 0) 1 41 := ⟨by decide +kernel, rfl⟩
theorem kX0_copyFrom_41 : Dk mtX0_copyFrom 41 (.aload_n 1) 1 42 := ⟨by decide +kernel, rfl⟩
theorem kX0_copyFrom_42 : Dk mtX0_copyFrom 42 (.getfield 30) 3 45 := ⟨by decide +kernel, rfl⟩
theorem kX0_copyFrom_45 : Dk mtX0_copyFrom 45 (.putfield 30) 3 48 := ⟨by decide +kernel, rfl⟩
theorem kX0_copyFrom_48 : Dk mtX0_copyFrom 48 (.aload_n 0) 1 49 := ⟨by decide +kernel, rfl⟩
theorem kX0_copyFrom_49 : Dk mtX0_copyFrom 49 (.aload_n 1) 1 50 := ⟨by decide +kernel, rfl⟩
theorem kX0_copyFrom_50 : Dk mtX0_copyFrom 50 (.getfield 33) 3 53 := ⟨by decide +kernel, rfl⟩
theorem kX0_copyFrom_53 : Dk mtX0_copyFrom 53 (.putfield 33) 3 56 := ⟨by decide +kernel, rfl⟩
theorem kX0_copyFrom_56 : Dk mtX0_copyFrom 56 (.aload_n 0) 1 57 := ⟨by decide +kernel, rfl⟩
theorem kX0_copyFrom_57 : Dk mtX0_copyFrom 57 (.aload_n 1) 1 58 := ⟨by decide +kernel, rfl⟩
theorem kX0_copyFrom_58 : Dk mtX0_copyFrom 58 (.getfield 36) 3 61 := ⟨by decide +kernel, rfl⟩
theorem kX0_copyFrom_61 : Dk mtX0_copyFrom 61 (.putfield 36) 3 64 := ⟨by decide +kernel, rfl⟩
theorem kX0_copyFrom_64 : Dk mtX0_copyFrom 64 (.aload_n 0) 1 65 := ⟨by decide +kernel, rfl⟩
theorem kX0_copyFrom_65 : Dk mtX0_copyFrom 65 (.aload_n 1) 1 66 := ⟨by decide +kernel, rfl⟩
theorem kX0_copyFrom_66 : Dk mtX0_copyFrom 66 (.getfield 39) 3 69 := ⟨by decide +kernel, rfl⟩
theorem kX0_copyFrom_69 : Dk mtX0_copyFrom 69 (.putfield 39) 3 72 := ⟨by decide +kernel, rfl⟩
theorem kX0_copyFrom_72 : Dk mtX0_copyFrom 72 (.aload_n 0) 1 73 := ⟨by decide +kernel, rfl⟩
theorem kX0_copyFrom_73 : Dk mtX0_copyFrom 73 (.aload_n 1) 1 74 := ⟨by decide +kernel, rfl⟩
theorem kX0_copyFrom_74 : Dk mtX0_copyFrom 74 (.getfield 42) 3 77 := ⟨by decide +kernel, rfl⟩
theorem kX0_copyFrom_77 : Dk mtX0_copyFrom 77 (.putfield 42) 3 80 := ⟨by decide +kernel, rfl⟩
theorem kX0_copyFrom_80 : Dk mtX0_copyFrom 80 (.return_) 1 81 := ⟨by decide +kernel, rfl⟩
theorem lfX0_15 : LkF RX0 15 0 1 := Or.inl (by decide +kernel)
theorem lfX0_18 : LkF RX0 18 0 2 := Or.inl (by decide +kernel)
theorem lfX0_21 : LkF RX0 21 0 3 := Or.inl (by decide +kernel)
theorem lfX0_24 : LkF RX0 24 0 4 := Or.inl (by decide +kernel)
theorem lfX0_27 : LkF RX0 27 0 5 := Or.inl (by decide +kernel)
theorem lfX0_30 : LkF RX0 30 0 6 := Or.inl (by decide +kernel)
theorem lfX0_33 : LkF RX0 33 0 7 := Or.inl (by decide +kernel)
theorem lfX0_36 : LkF RX0 36 0 8 := Or.inl (by decide +kernel)
theorem lfX0_39 : LkF RX0 39 0 9 := Or.inl (by decide +kernel)
theorem lfX0_42 : LkF RX0 42 0 10 := Or.inl (by decide +kernel)
set_option maxHeartbeats 4000000 in
set_option maxRecDepth 100000 in
theorem cl_bcopy {l : Launch} {w : Wd} {sg : Sg} (hWr : Wr w) {k k2 : Nat} (hk : k2 ≠ k) : M l mtX0_copyFrom w [vR (some (0, 0, k)), vR (some (0, 0, k2))] sg (fV0 (upr sg k (upd (upd (upd (upd (upd (upd (upd (upd (upd (upd (sg k) 1 (sg k2 1)) 2 (sg k2 2)) 3 (sg k2 3)) 4 (sg k2 4)) 5 (sg k2 5)) 6 (sg k2 6)) 7 (sg k2 7)) 8 (sg k2 8)) 9 (sg k2 9)) 10 (sg k2 10)))) := by
  refine M_of [some (vR (some (0, 0, k))), some (vR (some (0, 0, k2)))] rfl (Nat.le_of_ble_eq_true rfl) (by decide +kernel) ?_
  intro p_ e_ s_ m_ args_ below_ meth_ c_ hC hO
  refine V_aload_n hC kX0_copyFrom_0 rfl ?_
  refine V_aload_n hC kX0_copyFrom_1 rfl ?_
  refine V_getI hC 0 1 lfX0_15 kX0_copyFrom_2 (Nat.le_of_ble_eq_true rfl) (Nat.le_of_ble_eq_true rfl) rfl ?_
  refine V_putI hC 0 1 lfX0_15 kX0_copyFrom_5 (Nat.le_of_ble_eq_true rfl) (Nat.le_of_ble_eq_true rfl) rfl rfl ⟨rfl, rfl⟩ ?_
  refine V_canon (upr sg k (upd (sg k) 1 (sg k2 1))) rfl ?_
  refine V_aload_n hC kX0_copyFrom_8 rfl ?_
  refine V_aload_n hC kX0_copyFrom_9 rfl ?_
  refine V_getI hC 0 2 lfX0_18 kX0_copyFrom_10 (Nat.le_of_ble_eq_true rfl) (Nat.le_of_ble_eq_true rfl) rfl ?_
  refine V_putI hC 0 2 lfX0_18 kX0_copyFrom_13 (Nat.le_of_ble_eq_true rfl) (Nat.le_of_ble_eq_true rfl) rfl rfl ⟨rfl, rfl⟩ ?_
  refine V_canon (upr sg k (upd (upd (sg k) 1 (sg k2 1)) 2 (sg k2 2))) (by unfold ups; rw [upr_at, upr_upr, upr_ne _ _ hk]) ?_
  refine V_aload_n hC kX0_copyFrom_16 rfl ?_
  refine V_aload_n hC kX0_copyFrom_17 rfl ?_
  refine V_getI hC 0 3 lfX0_21 kX0_copyFrom_18 (Nat.le_of_ble_eq_true rfl) (Nat.le_of_ble_eq_true rfl) rfl ?_
  refine V_putI hC 0 3 lfX0_21 kX0_copyFrom_21 (Nat.le_of_ble_eq_true rfl) (Nat.le_of_ble_eq_true rfl) rfl rfl ⟨rfl, rfl⟩ ?_
  refine V_canon (upr sg k (upd (upd (upd (sg k) 1 (sg k2 1)) 2 (sg k2 2)) 3 (sg k2 3))) (by unfold ups; rw [upr_at, upr_upr, upr_ne _ _ hk]) ?_
  refine V_aload_n hC kX0_copyFrom_24 rfl ?_
  refine V_aload_n hC kX0_copyFrom_25 rfl ?_
  refine V_getI hC 0 4 lfX0_24 kX0_copyFrom_26 (Nat.le_of_ble_eq_true rfl) (Nat.le_of_ble_eq_true rfl) rfl ?_
  refine V_putI hC 0 4 lfX0_24 kX0_copyFrom_29 (Nat.le_of_ble_eq_true rfl) (Nat.le_of_ble_eq_true rfl) rfl rfl ⟨rfl, rfl⟩ ?_
  refine V_canon (upr sg k (upd (upd (upd (upd (sg k) 1 (sg k2 1)) 2 (sg k2 2)) 3 (sg k2 3)) 4 (sg k2 4))) (by unfold ups; rw [upr_at, upr_upr, upr_ne _ _ hk]) ?_
  refine V_aload_n hC kX0_copyFrom_32 rfl ?_
  refine V_aload_n hC kX0_copyFrom_33 rfl ?_
  refine V_getI hC 0 5 lfX0_27 kX0_copyFrom_34 (Nat.le_of_ble_eq_true rfl) (Nat.le_of_ble_eq_true rfl) rfl ?_
  refine V_putI hC 0 5 lfX0_27 kX0_copyFrom_37 (Nat.le_of_ble_eq_true rfl) (Nat.le_of_ble_eq_true rfl) rfl rfl ⟨rfl, rfl⟩ ?_
  refine V_canon (upr sg k (upd (upd (upd (upd (upd (sg k) 1 (sg k2 1)) 2 (sg k2 2)) 3 (sg k2 3)) 4 (sg k2 4)) 5 (sg k2 5))) (by unfold ups; rw [upr_at, upr_upr, upr_ne _ _ hk]) ?_
  refine V_aload_n hC kX0_copyFrom_40 rfl ?_
  refine V_aload_n hC kX0_copyFrom_41 rfl ?_
  refine V_getI hC 0 6 lfX0_30 kX0_copyFrom_42 (Nat.le_of_ble_eq_true rfl) (Nat.le_of_ble_eq_true rfl) rfl ?_
  refine V_putI hC 0 6 lfX0_30 kX0_copyFrom_45 (Nat.le_of_ble_eq_true rfl) (Nat.le_of_ble_eq_true rfl) rfl rfl ⟨rfl, rfl⟩ ?_
  refine V_canon (upr sg k (upd (upd (upd (upd (upd (upd (sg k) 1 (sg k2 1)) 2 (sg k2 2)) 3 (sg k2 3)) 4 (sg k2 4)) 5 (sg k2 5)) 6 (sg k2 6))) (by unfold ups; rw [upr_at, upr_upr, upr_ne _ _ hk]) ?_
  refine V_aload_n hC kX0_copyFrom_48 rfl ?_
  refine V_aload_n hC kX0_copyFrom_49 rfl ?_
  refine V_getI hC 0 7 lfX0_33 kX0_copyFrom_50 (Nat.le_of_ble_eq_true rfl) (Nat.le_of_ble_eq_true rfl) rfl ?_
  refine V_putI hC 0 7 lfX0_33 kX0_copyFrom_53 (Nat.le_of_ble_eq_true rfl) (Nat.le_of_ble_eq_true rfl) rfl rfl ⟨rfl, rfl⟩ ?_
  refine V_canon (upr sg k (upd (upd (upd (upd (upd (upd (upd (sg k) 1 (sg k2 1)) 2 (sg k2 2)) 3 (sg k2 3)) 4 (sg k2 4)) 5 (sg k2 5)) 6 (sg k2 6)) 7 (sg k2 7))) (by unfold ups; rw [upr_at, upr_upr, upr_ne _ _ hk]) ?_
  refine V_aload_n hC kX0_copyFrom_56 rfl ?_
  refine V_aload_n hC kX0_copyFrom_57 rfl ?_
  refine V_getI hC 0 8 lfX0_36 kX0_copyFrom_58 (Nat.le_of_ble_eq_true rfl) (Nat.le_of_ble_eq_true rfl) rfl ?_
  refine V_putI hC 0 8 lfX0_36 kX0_copyFrom_61 (Nat.le_of_ble_eq_true rfl) (Nat.le_of_ble_eq_true rfl) rfl rfl ⟨rfl, rfl⟩ ?_
  refine V_canon (upr sg k (upd (upd (upd (upd (upd (upd (upd (upd (sg k) 1 (sg k2 1)) 2 (sg k2 2)) 3 (sg k2 3)) 4 (sg k2 4)) 5 (sg k2 5)) 6 (sg k2 6)) 7 (sg k2 7)) 8 (sg k2 8))) (by unfold ups; rw [upr_at, upr_upr, upr_ne _ _ hk]) ?_
  refine V_aload_n hC kX0_copyFrom_64 rfl ?_
  refine V_aload_n hC kX0_copyFrom_65 rfl ?_
  refine V_getI hC 0 9 lfX0_39 kX0_copyFrom_66 (Nat.le_of_ble_eq_true rfl) (Nat.le_of_ble_eq_true rfl) rfl ?_
  refine V_putI hC 0 9 lfX0_39 kX0_copyFrom_69 (Nat.le_of_ble_eq_true rfl) (Nat.le_of_ble_eq_true rfl) rfl rfl ⟨rfl, rfl⟩ ?_
  refine V_canon (upr sg k (upd (upd (upd (upd (upd (upd (upd (upd (upd (sg k) 1 (sg k2 1)) 2 (sg k2 2)) 3 (sg k2 3)) 4 (sg k2 4)) 5 (sg k2 5)) 6 (sg k2 6)) 7 (sg k2 7)) 8 (sg k2 8)) 9 (sg k2 9))) (by unfold ups; rw [upr_at, upr_upr, upr_ne _ _ hk]) ?_
  refine V_aload_n hC kX0_copyFrom_72 rfl ?_
  refine V_aload_n hC kX0_copyFrom_73 rfl ?_
  refine V_getI hC 0 10 lfX0_42 kX0_copyFrom_74 (Nat.le_of_ble_eq_true rfl) (Nat.le_of_ble_eq_true rfl) rfl ?_
  refine V_putI hC 0 10 lfX0_42 kX0_copyFrom_77 (Nat.le_of_ble_eq_true rfl) (Nat.le_of_ble_eq_true rfl) rfl rfl ⟨rfl, rfl⟩ ?_
  refine V_canon (upr sg k (upd (upd (upd (upd (upd (upd (upd (upd (upd (upd (sg k) 1 (sg k2 1)) 2 (sg k2 2)) 3 (sg k2 3)) 4 (sg k2 4)) 5 (sg k2 5)) 6 (sg k2 6)) 7 (sg k2 7)) 8 (sg k2 8)) 9 (sg k2 9)) 10 (sg k2 10))) (by unfold ups; rw [upr_at, upr_upr, upr_ne _ _ hk]) ?_
  refine V_vret hC rfl kX0_copyFrom_80 ?_
  exact ⟨by with_reducible rfl, by with_reducible rfl⟩
def mtX2_numberOf : Mt := (yX2_numberOf, cX2_numberOf, 2, (some .int), 0, 0, 0, 0)
theorem kX2_numberOf_0 : Dk mtX2_numberOf 0 (.iload_n 1) 1 1 := ⟨by decide +kernel, rfl⟩
theorem kX2_numberOf_1 : Dk mtX2_numberOf 1 (.tableswitch 87 0 7 #[47, 52, 57, 62, 67, 72, 77, 82]) 47 48 := ⟨by decide +kernel, rfl⟩
theorem kX2_numberOf_48 : Dk mtX2_numberOf 48 (.aload_n 0) 1 49 := ⟨by decide +kernel, rfl⟩
theorem kX2_numberOf_49 : Dk mtX2_numberOf 49 (.getfield 9) 3 52 := ⟨by decide +kernel, rfl⟩
theorem kX2_numberOf_52 : Dk mtX2_numberOf 52 (.ireturn) 1 53 := ⟨by decide +kernel, rfl⟩
theorem kX2_numberOf_53 : Dk mtX2_numberOf 53 (.aload_n 0) 1 54 := ⟨by decide +kernel, rfl⟩
theorem kX2_numberOf_54 : Dk mtX2_numberOf 54 (.getfield 15) 3 57 := ⟨by decide +kernel, rfl⟩
theorem kX2_numberOf_57 : Dk mtX2_numberOf 57 (.ireturn) 1 58 := ⟨by decide +kernel, rfl⟩
theorem kX2_numberOf_58 : Dk mtX2_numberOf 58 (.aload_n 0) 1 59 := ⟨by decide +kernel, rfl⟩
theorem kX2_numberOf_59 : Dk mtX2_numberOf 59 (.getfield 18) 3 62 := ⟨by decide +kernel, rfl⟩
theorem kX2_numberOf_62 : Dk mtX2_numberOf 62 (.ireturn) 1 63 := ⟨by decide +kernel, rfl⟩
theorem kX2_numberOf_63 : Dk mtX2_numberOf 63 (.aload_n 0) 1 64 := ⟨by decide +kernel, rfl⟩
theorem kX2_numberOf_64 : Dk mtX2_numberOf 64 (.getfield 21) 3 67 := ⟨by decide +kernel, rfl⟩
theorem kX2_numberOf_67 : Dk mtX2_numberOf 67 (.ireturn) 1 68 := ⟨by decide +kernel, rfl⟩
theorem kX2_numberOf_68 : Dk mtX2_numberOf 68 (.aload_n 0) 1 69 := ⟨by decide +kernel, rfl⟩
theorem kX2_numberOf_69 : Dk mtX2_numberOf 69 (.getfield 24) 3 72 := ⟨by decide +kernel, rfl⟩
theorem kX2_numberOf_72 : Dk mtX2_numberOf 72 (.ireturn) 1 73 := ⟨by decide +kernel, rfl⟩
theorem kX2_numberOf_73 : Dk mtX2_numberOf 73 (.aload_n 0) 1 74 := ⟨by decide +kernel, rfl⟩
theorem kX2_numberOf_74 : Dk mtX2_numberOf 74 (.getfield 27) 3 77 := ⟨by decide +kernel, rfl⟩
theorem kX2_numberOf_77 : Dk mtX2_numberOf 77 (.ireturn) 1 78 := ⟨by decide +kernel, rfl⟩
theorem kX2_numberOf_78 : Dk mtX2_numberOf 78 (.aload_n 0) 1 79 := ⟨by decide +kernel, rfl⟩
theorem kX2_numberOf_79 : Dk mtX2_numberOf 79 (.getfield 30) 3 82 := ⟨by decide +kernel, rfl⟩
theorem kX2_numberOf_82 : Dk mtX2_numberOf 82 (.ireturn) 1 83 := ⟨by decide +kernel, rfl⟩
theorem kX2_numberOf_83 : Dk mtX2_numberOf 83 (.aload_n 0) 1 84 := ⟨by decide +kernel, rfl⟩
theorem kX2_numberOf_84 : Dk mtX2_numberOf 84 (.getfield 33) 3 87 := ⟨by decide +kernel, rfl⟩
theorem kX2_numberOf_87 : Dk mtX2_numberOf 87 (.ireturn) 1 88 := ⟨by decide +kernel, rfl⟩
theorem kX2_numberOf_88 : Dk mtX2_numberOf 88 (.aload_n 0) 1 89 := ⟨by decide +kernel, rfl⟩
theorem kX2_numberOf_89 : Dk mtX2_numberOf 89 (.getfield 36) 3 92 := ⟨by decide +kernel, rfl⟩
theorem kX2_numberOf_92 : Dk mtX2_numberOf 92 (.ireturn) 1 93 := ⟨by decide +kernel, rfl⟩
set_option maxHeartbeats 4000000 in
set_option maxRecDepth 100000 in
theorem cl_lnum {l : Launch} {w : Wd} {sg : Sg} (hWr : Wr w) {k : Nat} (a : Int32) (ha : inn a 0 8) : M l mtX2_numberOf w [vR (some (2, 0, k)), vI a] sg (fI ((fun j => sg k j : Nat → Int32) (tn a)) sg) := by
  refine M_of [some (vR (some (2, 0, k))), some (vI a)] rfl (Nat.le_of_ble_eq_true rfl) (by decide +kernel) ?_
  intro p_ e_ s_ m_ args_ below_ meth_ c_ hC hO
  obtain ⟨N, hN, ea⟩ : ∃ N, N < 9 ∧ a = nI N := vp_in_of (inn_vp (by decide) ha) (by decide)
  subst ea
  rcases (show N = 0 ∨ N = 1 ∨ N = 2 ∨ N = 3 ∨ N = 4 ∨ N = 5 ∨ N = 6 ∨ N = 7 ∨ N = 8 by omega) with e | e | e | e | e | e | e | e | e <;> subst e
  · refine V_iload_n hC kX2_numberOf_0 rfl ?_
    refine V_tabIn hC (47) 48 kX2_numberOf_1 (by decide) (by decide) rfl (by decide) ?_
    refine V_aload_n hC kX2_numberOf_48 rfl ?_
    refine V_getI hC 2 0 lfX2_9 kX2_numberOf_49 (Nat.le_of_ble_eq_true rfl) (Nat.le_of_ble_eq_true rfl) rfl ?_
    refine V_ireti hC rfl kX2_numberOf_52 ?_
    exact ⟨cI rfl, by with_reducible rfl⟩
  · refine V_iload_n hC kX2_numberOf_0 rfl ?_
    refine V_tabIn hC (52) 53 kX2_numberOf_1 (by decide) (by decide) rfl (by decide) ?_
    refine V_aload_n hC kX2_numberOf_53 rfl ?_
    refine V_getI hC 2 1 lfX2_15 kX2_numberOf_54 (Nat.le_of_ble_eq_true rfl) (Nat.le_of_ble_eq_true rfl) rfl ?_
    refine V_ireti hC rfl kX2_numberOf_57 ?_
    exact ⟨cI rfl, by with_reducible rfl⟩
  · refine V_iload_n hC kX2_numberOf_0 rfl ?_
    refine V_tabIn hC (57) 58 kX2_numberOf_1 (by decide) (by decide) rfl (by decide) ?_
    refine V_aload_n hC kX2_numberOf_58 rfl ?_
    refine V_getI hC 2 2 lfX2_18 kX2_numberOf_59 (Nat.le_of_ble_eq_true rfl) (Nat.le_of_ble_eq_true rfl) rfl ?_
    refine V_ireti hC rfl kX2_numberOf_62 ?_
    exact ⟨cI rfl, by with_reducible rfl⟩
  · refine V_iload_n hC kX2_numberOf_0 rfl ?_
    refine V_tabIn hC (62) 63 kX2_numberOf_1 (by decide) (by decide) rfl (by decide) ?_
    refine V_aload_n hC kX2_numberOf_63 rfl ?_
    refine V_getI hC 2 3 lfX2_21 kX2_numberOf_64 (Nat.le_of_ble_eq_true rfl) (Nat.le_of_ble_eq_true rfl) rfl ?_
    refine V_ireti hC rfl kX2_numberOf_67 ?_
    exact ⟨cI rfl, by with_reducible rfl⟩
  · refine V_iload_n hC kX2_numberOf_0 rfl ?_
    refine V_tabIn hC (67) 68 kX2_numberOf_1 (by decide) (by decide) rfl (by decide) ?_
    refine V_aload_n hC kX2_numberOf_68 rfl ?_
    refine V_getI hC 2 4 lfX2_24 kX2_numberOf_69 (Nat.le_of_ble_eq_true rfl) (Nat.le_of_ble_eq_true rfl) rfl ?_
    refine V_ireti hC rfl kX2_numberOf_72 ?_
    exact ⟨cI rfl, by with_reducible rfl⟩
  · refine V_iload_n hC kX2_numberOf_0 rfl ?_
    refine V_tabIn hC (72) 73 kX2_numberOf_1 (by decide) (by decide) rfl (by decide) ?_
    refine V_aload_n hC kX2_numberOf_73 rfl ?_
    refine V_getI hC 2 5 lfX2_27 kX2_numberOf_74 (Nat.le_of_ble_eq_true rfl) (Nat.le_of_ble_eq_true rfl) rfl ?_
    refine V_ireti hC rfl kX2_numberOf_77 ?_
    exact ⟨cI rfl, by with_reducible rfl⟩
  · refine V_iload_n hC kX2_numberOf_0 rfl ?_
    refine V_tabIn hC (77) 78 kX2_numberOf_1 (by decide) (by decide) rfl (by decide) ?_
    refine V_aload_n hC kX2_numberOf_78 rfl ?_
    refine V_getI hC 2 6 lfX2_30 kX2_numberOf_79 (Nat.le_of_ble_eq_true rfl) (Nat.le_of_ble_eq_true rfl) rfl ?_
    refine V_ireti hC rfl kX2_numberOf_82 ?_
    exact ⟨cI rfl, by with_reducible rfl⟩
  · refine V_iload_n hC kX2_numberOf_0 rfl ?_
    refine V_tabIn hC (82) 83 kX2_numberOf_1 (by decide) (by decide) rfl (by decide) ?_
    refine V_aload_n hC kX2_numberOf_83 rfl ?_
    refine V_getI hC 2 7 lfX2_33 kX2_numberOf_84 (Nat.le_of_ble_eq_true rfl) (Nat.le_of_ble_eq_true rfl) rfl ?_
    refine V_ireti hC rfl kX2_numberOf_87 ?_
    exact ⟨cI rfl, by with_reducible rfl⟩
  · refine V_iload_n hC kX2_numberOf_0 rfl ?_
    refine V_tabOut hC 88 kX2_numberOf_1 (by decide) (by decide) ?_
    refine V_aload_n hC kX2_numberOf_88 rfl ?_
    refine V_getI hC 2 8 lfX2_36 kX2_numberOf_89 (Nat.le_of_ble_eq_true rfl) (Nat.le_of_ble_eq_true rfl) rfl ?_
    refine V_ireti hC rfl kX2_numberOf_92 ?_
    exact ⟨cI rfl, by with_reducible rfl⟩
def mtX0_numberOf : Mt := (yX0_numberOf, cX0_numberOf, 2, (some .int), 0, 0, 0, 0)
theorem kX0_numberOf_0 : Dk mtX0_numberOf 0 (.iload_n 1) 1 1 := ⟨by decide +kernel, rfl⟩
theorem kX0_numberOf_1 : Dk mtX0_numberOf 1 (.tableswitch 87 0 7 #[47, 52, 57, 62, 67, 72, 77, 82]) 47 48 := ⟨by decide +kernel, rfl⟩
theorem kX0_numberOf_48 : Dk mtX0_numberOf 48 (.aload_n 0) 1 49 := ⟨by decide +kernel, rfl⟩
theorem kX0_numberOf_49 : Dk mtX0_numberOf 49 (.getfield 15) 3 52 := ⟨by decide +kernel, rfl⟩
theorem kX0_numberOf_52 : Dk mtX0_numberOf 52 (.ireturn) 1 53 := ⟨by decide +kernel, rfl⟩
theorem kX0_numberOf_53 : Dk mtX0_numberOf 53 (.aload_n 0) 1 54 := ⟨by decide +kernel, rfl⟩
theorem kX0_numberOf_54 : Dk mtX0_numberOf 54 (.getfield 18) 3 57 := ⟨by decide +kernel, rfl⟩
theorem kX0_numberOf_57 : Dk mtX0_numberOf 57 (.ireturn) 1 58 := ⟨by decide +kernel, rfl⟩
theorem kX0_numberOf_58 : Dk mtX0_numberOf 58 (.aload_n 0) 1 59 := ⟨by decide +kernel, rfl⟩
theorem kX0_numberOf_59 : Dk mtX0_numberOf 59 (.getfield 21) 3 62 := ⟨by decide +kernel, rfl⟩
theorem kX0_numberOf_62 : Dk mtX0_numberOf 62 (.ireturn) 1 63 := ⟨by decide +kernel, rfl⟩
theorem kX0_numberOf_63 : Dk mtX0_numberOf 63 (.aload_n 0) 1 64 := ⟨by decide +kernel, rfl⟩
theorem kX0_numberOf_64 : Dk mtX0_numberOf 64 (.getfield 24) 3 67 := ⟨by decide +kernel, rfl⟩
theorem kX0_numberOf_67 : Dk mtX0_numberOf 67 (.ireturn) 1 68 := ⟨by decide +kernel, rfl⟩
theorem kX0_numberOf_68 : Dk mtX0_numberOf 68 (.aload_n 0) 1 69 := ⟨by decide +kernel, rfl⟩
theorem kX0_numberOf_69 : Dk mtX0_numberOf 69 (.getfield 27) 3 72 := ⟨by decide +kernel, rfl⟩
theorem kX0_numberOf_72 : Dk mtX0_numberOf 72 (.ireturn) 1 73 := ⟨by decide +kernel, rfl⟩
theorem kX0_numberOf_73 : Dk mtX0_numberOf 73 (.aload_n 0) 1 74 := ⟨by decide +kernel, rfl⟩
theorem kX0_numberOf_74 : Dk mtX0_numberOf 74 (.getfield 30) 3 77 := ⟨by decide +kernel, rfl⟩
theorem kX0_numberOf_77 : Dk mtX0_numberOf 77 (.ireturn) 1 78 := ⟨by decide +kernel, rfl⟩
theorem kX0_numberOf_78 : Dk mtX0_numberOf 78 (.aload_n 0) 1 79 := ⟨by decide +kernel, rfl⟩
theorem kX0_numberOf_79 : Dk mtX0_numberOf 79 (.getfield 33) 3 82 := ⟨by decide +kernel, rfl⟩
theorem kX0_numberOf_82 : Dk mtX0_numberOf 82 (.ireturn) 1 83 := ⟨by decide +kernel, rfl⟩
theorem kX0_numberOf_83 : Dk mtX0_numberOf 83 (.aload_n 0) 1 84 := ⟨by decide +kernel, rfl⟩
theorem kX0_numberOf_84 : Dk mtX0_numberOf 84 (.getfield 39) 3 87 := ⟨by decide +kernel, rfl⟩
theorem kX0_numberOf_87 : Dk mtX0_numberOf 87 (.ireturn) 1 88 := ⟨by decide +kernel, rfl⟩
theorem kX0_numberOf_88 : Dk mtX0_numberOf 88 (.aload_n 0) 1 89 := ⟨by decide +kernel, rfl⟩
theorem kX0_numberOf_89 : Dk mtX0_numberOf 89 (.getfield 42) 3 92 := ⟨by decide +kernel, rfl⟩
theorem kX0_numberOf_92 : Dk mtX0_numberOf 92 (.ireturn) 1 93 := ⟨by decide +kernel, rfl⟩
set_option maxHeartbeats 4000000 in
set_option maxRecDepth 100000 in
theorem cl_bnum {l : Launch} {w : Wd} {sg : Sg} (hWr : Wr w) {k : Nat} (a : Int32) (ha : inn a 0 8) : M l mtX0_numberOf w [vR (some (0, 0, k)), vI a] sg (fI ((fun j => sg k (if j < 7 then j + 1 else j + 2) : Nat → Int32) (tn a)) sg) := by
  refine M_of [some (vR (some (0, 0, k))), some (vI a)] rfl (Nat.le_of_ble_eq_true rfl) (by decide +kernel) ?_
  intro p_ e_ s_ m_ args_ below_ meth_ c_ hC hO
  obtain ⟨N, hN, ea⟩ : ∃ N, N < 9 ∧ a = nI N := vp_in_of (inn_vp (by decide) ha) (by decide)
  subst ea
  rcases (show N = 0 ∨ N = 1 ∨ N = 2 ∨ N = 3 ∨ N = 4 ∨ N = 5 ∨ N = 6 ∨ N = 7 ∨ N = 8 by omega) with e | e | e | e | e | e | e | e | e <;> subst e
  · refine V_iload_n hC kX0_numberOf_0 rfl ?_
    refine V_tabIn hC (47) 48 kX0_numberOf_1 (by decide) (by decide) rfl (by decide) ?_
    refine V_aload_n hC kX0_numberOf_48 rfl ?_
    refine V_getI hC 0 1 lfX0_15 kX0_numberOf_49 (Nat.le_of_ble_eq_true rfl) (Nat.le_of_ble_eq_true rfl) rfl ?_
    refine V_ireti hC rfl kX0_numberOf_52 ?_
    exact ⟨cI rfl, by with_reducible rfl⟩
  · refine V_iload_n hC kX0_numberOf_0 rfl ?_
    refine V_tabIn hC (52) 53 kX0_numberOf_1 (by decide) (by decide) rfl (by decide) ?_
    refine V_aload_n hC kX0_numberOf_53 rfl ?_
    refine V_getI hC 0 2 lfX0_18 kX0_numberOf_54 (Nat.le_of_ble_eq_true rfl) (Nat.le_of_ble_eq_true rfl) rfl ?_
    refine V_ireti hC rfl kX0_numberOf_57 ?_
    exact ⟨cI rfl, by with_reducible rfl⟩
  · refine V_iload_n hC kX0_numberOf_0 rfl ?_
    refine V_tabIn hC (57) 58 kX0_numberOf_1 (by decide) (by decide) rfl (by decide) ?_
    refine V_aload_n hC kX0_numberOf_58 rfl ?_
    refine V_getI hC 0 3 lfX0_21 kX0_numberOf_59 (Nat.le_of_ble_eq_true rfl) (Nat.le_of_ble_eq_true rfl) rfl ?_
    refine V_ireti hC rfl kX0_numberOf_62 ?_
    exact ⟨cI rfl, by with_reducible rfl⟩
  · refine V_iload_n hC kX0_numberOf_0 rfl ?_
    refine V_tabIn hC (62) 63 kX0_numberOf_1 (by decide) (by decide) rfl (by decide) ?_
    refine V_aload_n hC kX0_numberOf_63 rfl ?_
    refine V_getI hC 0 4 lfX0_24 kX0_numberOf_64 (Nat.le_of_ble_eq_true rfl) (Nat.le_of_ble_eq_true rfl) rfl ?_
    refine V_ireti hC rfl kX0_numberOf_67 ?_
    exact ⟨cI rfl, by with_reducible rfl⟩
  · refine V_iload_n hC kX0_numberOf_0 rfl ?_
    refine V_tabIn hC (67) 68 kX0_numberOf_1 (by decide) (by decide) rfl (by decide) ?_
    refine V_aload_n hC kX0_numberOf_68 rfl ?_
    refine V_getI hC 0 5 lfX0_27 kX0_numberOf_69 (Nat.le_of_ble_eq_true rfl) (Nat.le_of_ble_eq_true rfl) rfl ?_
    refine V_ireti hC rfl kX0_numberOf_72 ?_
    exact ⟨cI rfl, by with_reducible rfl⟩
  · refine V_iload_n hC kX0_numberOf_0 rfl ?_
    refine V_tabIn hC (72) 73 kX0_numberOf_1 (by decide) (by decide) rfl (by decide) ?_
    refine V_aload_n hC kX0_numberOf_73 rfl ?_
    refine V_getI hC 0 6 lfX0_30 kX0_numberOf_74 (Nat.le_of_ble_eq_true rfl) (Nat.le_of_ble_eq_true rfl) rfl ?_
    refine V_ireti hC rfl kX0_numberOf_77 ?_
    exact ⟨cI rfl, by with_reducible rfl⟩
  · refine V_iload_n hC kX0_numberOf_0 rfl ?_
    refine V_tabIn hC (77) 78 kX0_numberOf_1 (by decide) (by decide) rfl (by decide) ?_
    refine V_aload_n hC kX0_numberOf_78 rfl ?_
    refine V_getI hC 0 7 lfX0_33 kX0_numberOf_79 (Nat.le_of_ble_eq_true rfl) (Nat.le_of_ble_eq_true rfl) rfl ?_
    refine V_ireti hC rfl kX0_numberOf_82 ?_
    exact ⟨cI rfl, by with_reducible rfl⟩
  · refine V_iload_n hC kX0_numberOf_0 rfl ?_
    refine V_tabIn hC (82) 83 kX0_numberOf_1 (by decide) (by decide) rfl (by decide) ?_
    refine V_aload_n hC kX0_numberOf_83 rfl ?_
    refine V_getI hC 0 9 lfX0_39 kX0_numberOf_84 (Nat.le_of_ble_eq_true rfl) (Nat.le_of_ble_eq_true rfl) rfl ?_
    refine V_ireti hC rfl kX0_numberOf_87 ?_
    exact ⟨cI rfl, by with_reducible rfl⟩
  · refine V_iload_n hC kX0_numberOf_0 rfl ?_
    refine V_tabOut hC 88 kX0_numberOf_1 (by decide) (by decide) ?_
    refine V_aload_n hC kX0_numberOf_88 rfl ?_
    refine V_getI hC 0 10 lfX0_42 kX0_numberOf_89 (Nat.le_of_ble_eq_true rfl) (Nat.le_of_ble_eq_true rfl) rfl ?_
    refine V_ireti hC rfl kX0_numberOf_92 ?_
    exact ⟨cI rfl, by with_reducible rfl⟩
def mtX2_brightnessAt : Mt := (yX2_brightnessAt, cX2_brightnessAt, 7, (some .int), 0, 0, 0, 0)
theorem kX2_brightnessAt_0 : Dk mtX2_brightnessAt 0 (.aload_n 0) 1 1 := ⟨by decide +kernel, rfl⟩
theorem kX2_brightnessAt_1 : Dk mtX2_brightnessAt 1 (.getfield 21) 3 4 := ⟨by decide +kernel, rfl⟩
theorem kX2_brightnessAt_4 : Dk mtX2_brightnessAt 4 (.iconst 2) 1 5 := ⟨by decide +kernel, rfl⟩
theorem kX2_brightnessAt_5 : Dk mtX2_brightnessAt 5 (.irem) 1 6 := ⟨by decide +kernel, rfl⟩
theorem kX2_brightnessAt_6 : Dk mtX2_brightnessAt 6 (.iconst 1) 1 7 := ⟨by decide +kernel, rfl⟩
theorem kX2_brightnessAt_7 : Dk mtX2_brightnessAt 7 (.if_icmp .ne 19) 3 10 := ⟨by decide +kernel, rfl⟩
theorem kX2_brightnessAt_10 : Dk mtX2_brightnessAt 10 (.iload_n 1) 1 11 := ⟨by decide +kernel, rfl⟩
theorem kX2_brightnessAt_11 : Dk mtX2_brightnessAt 11 (.aload_n 0) 1 12 := ⟨by decide +kernel, rfl⟩
theorem kX2_brightnessAt_12 : Dk mtX2_brightnessAt 12 (.getfield 9) 3 15 := ⟨by decide +kernel, rfl⟩
theorem kX2_brightnessAt_15 : Dk mtX2_brightnessAt 15 (.if_icmp .ge 7) 3 18 := ⟨by decide +kernel, rfl⟩
theorem kX2_brightnessAt_18 : Dk mtX2_brightnessAt 18 (.iconst 1) 1 19 := ⟨by decide +kernel, rfl⟩
theorem kX2_brightnessAt_19 : Dk mtX2_brightnessAt 19 (.goto 20) 3 22 := ⟨by decide +kernel, rfl⟩
theorem kX2_brightnessAt_22 : Dk mtX2_brightnessAt 22 (.iconst 0) 1 23 := ⟨by decide +kernel, rfl⟩
theorem kX2_brightnessAt_23 : Dk mtX2_brightnessAt 23 (.goto 16) 3 26 := ⟨by decide +kernel, rfl⟩
theorem kX2_brightnessAt_26 : Dk mtX2_brightnessAt 26 (.iload_n 1) 1 27 := ⟨by decide +kernel, rfl⟩
theorem kX2_brightnessAt_27 : Dk mtX2_brightnessAt 27 (.aload_n 0) 1 28 := ⟨by decide +kernel, rfl⟩
theorem kX2_brightnessAt_28 : Dk mtX2_brightnessAt 28 (.getfield 9) 3 31 := ⟨by decide +kernel, rfl⟩
theorem kX2_brightnessAt_31 : Dk mtX2_brightnessAt 31 (.if_icmp .le 7) 3 34 := ⟨by decide +kernel, rfl⟩
theorem kX2_brightnessAt_34 : Dk mtX2_brightnessAt 34 (.iconst 1) 1 35 := ⟨by decide +kernel, rfl⟩
theorem kX2_brightnessAt_35 : Dk mtX2_brightnessAt 35 (.goto 4) 3 38 := ⟨by decide +kernel, rfl⟩
theorem kX2_brightnessAt_38 : Dk mtX2_brightnessAt 38 (.iconst 0) 1 39 := ⟨by decide +kernel, rfl⟩
theorem kX2_brightnessAt_39 : Dk mtX2_brightnessAt 39 (.istore_n 3) 1 40 := ⟨by decide +kernel, rfl⟩
theorem kX2_brightnessAt_40 : Dk mtX2_brightnessAt 40 (.bipush 10) 2 42 := ⟨by decide +kernel, rfl⟩
theorem kX2_brightnessAt_42 : Dk mtX2_brightnessAt 42 (.iload_n 1) 1 43 := ⟨by decide +kernel, rfl⟩
theorem kX2_brightnessAt_43 : Dk mtX2_brightnessAt 43 (.aload_n 0) 1 44 := ⟨by decide +kernel, rfl⟩
theorem kX2_brightnessAt_44 : Dk mtX2_brightnessAt 44 (.getfield 9) 3 47 := ⟨by decide +kernel, rfl⟩
theorem kX2_brightnessAt_47 : Dk mtX2_brightnessAt 47 (.if_icmp .ge 12) 3 50 := ⟨by decide +kernel, rfl⟩
theorem kX2_brightnessAt_50 : Dk mtX2_brightnessAt 50 (.aload_n 0) 1 51 := ⟨by decide +kernel, rfl⟩
theorem kX2_brightnessAt_51 : Dk mtX2_brightnessAt 51 (.getfield 9) 3 54 := ⟨by decide +kernel, rfl⟩
theorem kX2_brightnessAt_54 : Dk mtX2_brightnessAt 54 (.iload_n 1) 1 55 := ⟨by decide +kernel, rfl⟩
theorem kX2_brightnessAt_55 : Dk mtX2_brightnessAt 55 (.isub) 1 56 := ⟨by decide +kernel, rfl⟩
theorem kX2_brightnessAt_56 : Dk mtX2_brightnessAt 56 (.goto 9) 3 59 := ⟨by decide +kernel, rfl⟩
theorem kX2_brightnessAt_59 : Dk mtX2_brightnessAt 59 (.iload_n 1) 1 60 := ⟨by decide +kernel, rfl⟩
theorem kX2_brightnessAt_60 : Dk mtX2_brightnessAt 60 (.aload_n 0) 1 61 := ⟨by decide +kernel, rfl⟩
theorem kX2_brightnessAt_61 : Dk mtX2_brightnessAt 61 (.getfield 9) 3 64 := ⟨by decide +kernel, rfl⟩
theorem kX2_brightnessAt_64 : Dk mtX2_brightnessAt 64 (.isub) 1 65 := ⟨by decide +kernel, rfl⟩
theorem kX2_brightnessAt_65 : Dk mtX2_brightnessAt 65 (.iadd) 1 66 := ⟨by decide +kernel, rfl⟩
theorem kX2_brightnessAt_66 : Dk mtX2_brightnessAt 66 (.istore 4) 2 68 := ⟨by decide +kernel, rfl⟩
theorem kX2_brightnessAt_68 : Dk mtX2_brightnessAt 68 (.iload 4) 2 70 := ⟨by decide +kernel, rfl⟩
theorem kX2_brightnessAt_70 : Dk mtX2_brightnessAt 70 (.iconst 1) 1 71 := ⟨by decide +kernel, rfl⟩
theorem kX2_brightnessAt_71 : Dk mtX2_brightnessAt 71 (.if_icmp .lt 15) 3 74 := ⟨by decide +kernel, rfl⟩
theorem kX2_brightnessAt_74 : Dk mtX2_brightnessAt 74 (.aload_n 0) 1 75 := ⟨by decide +kernel, rfl⟩
theorem kX2_brightnessAt_75 : Dk mtX2_brightnessAt 75 (.getfield 18) 3 78 := ⟨by decide +kernel, rfl⟩
theorem kX2_brightnessAt_78 : Dk mtX2_brightnessAt 78 (.iconst 2) 1 79 := ⟨by decide +kernel, rfl⟩
theorem kX2_brightnessAt_79 : Dk mtX2_brightnessAt 79 (.if_icmp .ne 9) 3 82 := ⟨by decide +kernel, rfl⟩
theorem kX2_brightnessAt_82 : Dk mtX2_brightnessAt 82 (.iload_n 3) 1 83 := ⟨by decide +kernel, rfl⟩
theorem kX2_brightnessAt_83 : Dk mtX2_brightnessAt 83 (.ifCond .eq 5) 3 86 := ⟨by decide +kernel, rfl⟩
theorem kX2_brightnessAt_86 : Dk mtX2_brightnessAt 86 (.iconst 0) 1 87 := ⟨by decide +kernel, rfl⟩
theorem kX2_brightnessAt_87 : Dk mtX2_brightnessAt 87 (.ireturn) 1 88 := ⟨by decide +kernel, rfl⟩
theorem kX2_brightnessAt_88 : Dk mtX2_brightnessAt 88 (.aload_n 0) 1 89 := ⟨by decide +kernel, rfl⟩
theorem kX2_brightnessAt_89 : Dk mtX2_brightnessAt 89 (.getfield 15) 3 92 := ⟨by decide +kernel, rfl⟩
theorem kX2_brightnessAt_92 : Dk mtX2_brightnessAt 92 (.bipush 100) 2 94 := ⟨by decide +kernel, rfl⟩
theorem kX2_brightnessAt_94 : Dk mtX2_brightnessAt 94 (.imul) 1 95 := ⟨by decide +kernel, rfl⟩
theorem kX2_brightnessAt_95 : Dk mtX2_brightnessAt 95 (.iload 4) 2 97 := ⟨by decide +kernel, rfl⟩
theorem kX2_brightnessAt_97 : Dk mtX2_brightnessAt 97 (.idiv) 1 98 := ⟨by decide +kernel, rfl⟩
theorem kX2_brightnessAt_98 : Dk mtX2_brightnessAt 98 (.istore 5) 2 100 := ⟨by decide +kernel, rfl⟩
theorem kX2_brightnessAt_100 : Dk mtX2_brightnessAt 100 (.aload_n 0) 1 101 := ⟨by decide +kernel, rfl⟩
theorem kX2_brightnessAt_101 : Dk mtX2_brightnessAt 101 (.getfield 21) 3 104 := ⟨by decide +kernel, rfl⟩
theorem kX2_brightnessAt_104 : Dk mtX2_brightnessAt 104 (.ifCond .le 19) 3 107 := ⟨by decide +kernel, rfl⟩
theorem kX2_brightnessAt_107 : Dk mtX2_brightnessAt 107 (.iload_n 2) 1 108 := ⟨by decide +kernel, rfl⟩
theorem kX2_brightnessAt_108 : Dk mtX2_brightnessAt 108 (.aload_n 0) 1 109 := ⟨by decide +kernel, rfl⟩
theorem kX2_brightnessAt_109 : Dk mtX2_brightnessAt 109 (.getfield 21) 3 112 := ⟨by decide +kernel, rfl⟩
theorem kX2_brightnessAt_112 : Dk mtX2_brightnessAt 112 (.idiv) 1 113 := ⟨by decide +kernel, rfl⟩
theorem kX2_brightnessAt_113 : Dk mtX2_brightnessAt 113 (.iconst 2) 1 114 := ⟨by decide +kernel, rfl⟩
theorem kX2_brightnessAt_114 : Dk mtX2_brightnessAt 114 (.irem) 1 115 := ⟨by decide +kernel, rfl⟩
theorem kX2_brightnessAt_115 : Dk mtX2_brightnessAt 115 (.iconst 1) 1 116 := ⟨by decide +kernel, rfl⟩
theorem kX2_brightnessAt_116 : Dk mtX2_brightnessAt 116 (.if_icmp .ne 7) 3 119 := ⟨by decide +kernel, rfl⟩
theorem kX2_brightnessAt_119 : Dk mtX2_brightnessAt 119 (.iconst 1) 1 120 := ⟨by decide +kernel, rfl⟩
theorem kX2_brightnessAt_120 : Dk mtX2_brightnessAt 120 (.goto 4) 3 123 := ⟨by decide +kernel, rfl⟩
theorem kX2_brightnessAt_123 : Dk mtX2_brightnessAt 123 (.iconst 0) 1 124 := ⟨by decide +kernel, rfl⟩
theorem kX2_brightnessAt_124 : Dk mtX2_brightnessAt 124 (.istore 6) 2 126 := ⟨by decide +kernel, rfl⟩
theorem kX2_brightnessAt_126 : Dk mtX2_brightnessAt 126 (.aload_n 0) 1 127 := ⟨by decide +kernel, rfl⟩
theorem kX2_brightnessAt_127 : Dk mtX2_brightnessAt 127 (.getfield 18) 3 130 := ⟨by decide +kernel, rfl⟩
theorem kX2_brightnessAt_130 : Dk mtX2_brightnessAt 130 (.iconst 1) 1 131 := ⟨by decide +kernel, rfl⟩
theorem kX2_brightnessAt_131 : Dk mtX2_brightnessAt 131 (.if_icmp .ne 15) 3 134 := ⟨by decide +kernel, rfl⟩
theorem kX2_brightnessAt_134 : Dk mtX2_brightnessAt 134 (.iload 6) 2 136 := ⟨by decide +kernel, rfl⟩
theorem kX2_brightnessAt_136 : Dk mtX2_brightnessAt 136 (.ifCond .eq 10) 3 139 := ⟨by decide +kernel, rfl⟩
theorem kX2_brightnessAt_139 : Dk mtX2_brightnessAt 139 (.iload 5) 2 141 := ⟨by decide +kernel, rfl⟩
theorem kX2_brightnessAt_141 : Dk mtX2_brightnessAt 141 (.iconst 2) 1 142 := ⟨by decide +kernel, rfl⟩
theorem kX2_brightnessAt_142 : Dk mtX2_brightnessAt 142 (.idiv) 1 143 := ⟨by decide +kernel, rfl⟩
theorem kX2_brightnessAt_143 : Dk mtX2_brightnessAt 143 (.goto 5) 3 146 := ⟨by decide +kernel, rfl⟩
theorem kX2_brightnessAt_146 : Dk mtX2_brightnessAt 146 (.iload 5) 2 148 := ⟨by decide +kernel, rfl⟩
theorem kX2_brightnessAt_148 : Dk mtX2_brightnessAt 148 (.ireturn) 1 149 := ⟨by decide +kernel, rfl⟩
set_option maxHeartbeats 4000000 in
set_option maxRecDepth 100000 in
theorem cl_bright {l : Launch} {w : Wd} {sg : Sg} (hWr : Wr w) {k : Nat} (p t : Int32) (hw : okW (sg k) p) : M l mtX2_brightnessAt w [vR (some (2, 0, k)), vI p, vI t] sg (fI (W_bright (sg k) p t) sg) := by
  refine M_of [some (vR (some (2, 0, k))), some (vI p), some (vI t), none, none, none, none] rfl (Nat.le_of_ble_eq_true rfl) (by decide +kernel) ?_
  intro p_ e_ s_ m_ args_ below_ meth_ c_ hC hO
  refine V_join 39 (b01 (W_turned (sg k) p)) ?_ (fun j39 => ?_)
  · refine V_nameI (fun tu e_tu => ?_)
    refine V_istore_n hC [some _, some _, some _, some _, none, none, none] kX2_brightnessAt_39 rfl (Nat.le_of_ble_eq_true rfl) ?_
    refine V_bipush hC (10) kX2_brightnessAt_40 (by decide) ?_
    refine V_join 65 ((if p - (sg k) 0 < 0 then -(p - (sg k) 0) else p - (sg k) 0)) ?_ (fun j65 => ?_)
    · refine V_iadd hC kX2_brightnessAt_65 ?_
      refine V_nameI (fun sp e_sp => ?_)
      refine V_istore hC [some _, some _, some _, some _, some _, none, none] kX2_brightnessAt_66 rfl (Nat.le_of_ble_eq_true rfl) ?_
      refine V_iload hC kX2_brightnessAt_68 rfl ?_
      refine V_iconst hC (1) kX2_brightnessAt_70 (by decide) ?_
      refine V_icmp_lt hC 86 kX2_brightnessAt_71 (by decide) (fun h71 => absurd h71 (by rw [e_sp]; exact hw.span)) (fun h71 => ?_)
      refine V_aload_n hC kX2_brightnessAt_74 rfl ?_
      refine V_getI hC 2 2 lfX2_18 kX2_brightnessAt_75 (Nat.le_of_ble_eq_true rfl) (Nat.le_of_ble_eq_true rfl) rfl ?_
      refine V_iconst hC (2) kX2_brightnessAt_78 (by decide) ?_
      refine V_icmp_ne hC 88 kX2_brightnessAt_79 (by decide) (fun h79 => ?_) (fun h79 => ?_)
      · have hk : ¬ (sg k 2 = 2 ∧ W_turned (sg k) p) := by
          first
          | exact fun z => h79 z.1
          | exact fun z => b0_of e_tu h83 z.2
        refine V_aload_n hC kX2_brightnessAt_88 rfl ?_
        refine V_getI hC 2 1 lfX2_15 kX2_brightnessAt_89 (Nat.le_of_ble_eq_true rfl) (Nat.le_of_ble_eq_true rfl) rfl ?_
        refine V_bipush hC (100) kX2_brightnessAt_92 (by decide) ?_
        refine V_imul hC kX2_brightnessAt_94 ?_
        refine V_iload hC kX2_brightnessAt_95 rfl ?_
        refine V_idiv hC kX2_brightnessAt_97 (by rw [e_sp]; exact ne_span _) ?_
        refine V_nameI (fun fu e_fu => ?_)
        refine V_istore hC [some _, some _, some _, some _, some _, some _, none] kX2_brightnessAt_98 rfl (Nat.le_of_ble_eq_true rfl) ?_
        refine V_join 124 (b01 (rm (t / (sg k) 3) 2 = 1)) ?_ (fun j124 => ?_)
        · refine V_nameI (fun lw e_lw => ?_)
          refine V_istore hC [some _, some _, some _, some _, some _, some _, some _] kX2_brightnessAt_124 rfl (Nat.le_of_ble_eq_true rfl) ?_
          refine V_aload_n hC kX2_brightnessAt_126 rfl ?_
          refine V_getI hC 2 2 lfX2_18 kX2_brightnessAt_127 (Nat.le_of_ble_eq_true rfl) (Nat.le_of_ble_eq_true rfl) rfl ?_
          refine V_iconst hC (1) kX2_brightnessAt_130 (by decide) ?_
          refine V_icmp_ne hC 146 kX2_brightnessAt_131 (by decide) (fun h131 => ?_) (fun h131 => ?_)
          · refine V_iload hC kX2_brightnessAt_146 rfl ?_
            refine V_ireti hC rfl kX2_brightnessAt_148 ?_
            refine ⟨cI ?_, by with_reducible rfl⟩
            subst e_fu e_sp
            rw [W_bright]
            first
            | (rw [if_neg h131, if_neg hk, W_x]; done)
            | (rw [if_pos h131, if_neg (b0_of e_lw h136), W_x]; done)
            | (rw [if_pos h131, if_pos (b1_of e_lw h136), W_x]; done)
          · refine V_iload hC kX2_brightnessAt_134 rfl ?_
            refine V_if_eq hC 146 kX2_brightnessAt_136 (by decide) (fun h136 => ?_) (fun h136 => ?_)
            · refine V_iload hC kX2_brightnessAt_146 rfl ?_
              refine V_ireti hC rfl kX2_brightnessAt_148 ?_
              refine ⟨cI ?_, by with_reducible rfl⟩
              subst e_fu e_sp
              rw [W_bright]
              first
              | (rw [if_neg h131, if_neg hk, W_x]; done)
              | (rw [if_pos h131, if_neg (b0_of e_lw h136), W_x]; done)
              | (rw [if_pos h131, if_pos (b1_of e_lw h136), W_x]; done)
            · refine V_iload hC kX2_brightnessAt_139 rfl ?_
              refine V_iconst hC (2) kX2_brightnessAt_141 (by decide) ?_
              refine V_idiv hC kX2_brightnessAt_142 (by decide) ?_
              refine V_goto hC 148 kX2_brightnessAt_143 (by decide) ?_
              refine V_ireti hC rfl kX2_brightnessAt_148 ?_
              refine ⟨cI ?_, by with_reducible rfl⟩
              subst e_fu e_sp
              rw [W_bright]
              first
              | (rw [if_neg h131, if_neg hk, W_x]; done)
              | (rw [if_pos h131, if_neg (b0_of e_lw h136), W_x]; done)
              | (rw [if_pos h131, if_pos (b1_of e_lw h136), W_x]; done)
        · refine V_aload_n hC kX2_brightnessAt_100 rfl ?_
          refine V_getI hC 2 3 lfX2_21 kX2_brightnessAt_101 (Nat.le_of_ble_eq_true rfl) (Nat.le_of_ble_eq_true rfl) rfl ?_
          refine V_if_le hC 123 kX2_brightnessAt_104 (by decide) (fun h104 => absurd h104 hw.n.1) (fun h104 => ?_)
          refine V_iload_n hC kX2_brightnessAt_107 rfl ?_
          refine V_aload_n hC kX2_brightnessAt_108 rfl ?_
          refine V_getI hC 2 3 lfX2_21 kX2_brightnessAt_109 (Nat.le_of_ble_eq_true rfl) (Nat.le_of_ble_eq_true rfl) rfl ?_
          refine V_idiv hC kX2_brightnessAt_112 hw.n.2 ?_
          refine V_iconst hC (2) kX2_brightnessAt_113 (by decide) ?_
          refine V_irem hC kX2_brightnessAt_114 (by decide) ?_
          refine V_iconst hC (1) kX2_brightnessAt_115 (by decide) ?_
          refine V_icmp_ne hC 123 kX2_brightnessAt_116 (by decide) (fun h116 => ?_) (fun h116 => ?_)
          · refine V_iconst hC (0) kX2_brightnessAt_123 (by decide) ?_
            exact j124 _ ((b01_f h116).symm)
          · refine V_iconst hC (1) kX2_brightnessAt_119 (by decide) ?_
            refine V_goto hC 124 kX2_brightnessAt_120 (by decide) ?_
            exact j124 _ ((b01_t h116).symm)
      · refine V_iload_n hC kX2_brightnessAt_82 rfl ?_
        refine V_if_eq hC 88 kX2_brightnessAt_83 (by decide) (fun h83 => ?_) (fun h83 => ?_)
        · have hk : ¬ (sg k 2 = 2 ∧ W_turned (sg k) p) := by
            first
            | exact fun z => h79 z.1
            | exact fun z => b0_of e_tu h83 z.2
          refine V_aload_n hC kX2_brightnessAt_88 rfl ?_
          refine V_getI hC 2 1 lfX2_15 kX2_brightnessAt_89 (Nat.le_of_ble_eq_true rfl) (Nat.le_of_ble_eq_true rfl) rfl ?_
          refine V_bipush hC (100) kX2_brightnessAt_92 (by decide) ?_
          refine V_imul hC kX2_brightnessAt_94 ?_
          refine V_iload hC kX2_brightnessAt_95 rfl ?_
          refine V_idiv hC kX2_brightnessAt_97 (by rw [e_sp]; exact ne_span _) ?_
          refine V_nameI (fun fu e_fu => ?_)
          refine V_istore hC [some _, some _, some _, some _, some _, some _, none] kX2_brightnessAt_98 rfl (Nat.le_of_ble_eq_true rfl) ?_
          refine V_join 124 (b01 (rm (t / (sg k) 3) 2 = 1)) ?_ (fun j124 => ?_)
          · refine V_nameI (fun lw e_lw => ?_)
            refine V_istore hC [some _, some _, some _, some _, some _, some _, some _] kX2_brightnessAt_124 rfl (Nat.le_of_ble_eq_true rfl) ?_
            refine V_aload_n hC kX2_brightnessAt_126 rfl ?_
            refine V_getI hC 2 2 lfX2_18 kX2_brightnessAt_127 (Nat.le_of_ble_eq_true rfl) (Nat.le_of_ble_eq_true rfl) rfl ?_
            refine V_iconst hC (1) kX2_brightnessAt_130 (by decide) ?_
            refine V_icmp_ne hC 146 kX2_brightnessAt_131 (by decide) (fun h131 => ?_) (fun h131 => ?_)
            · refine V_iload hC kX2_brightnessAt_146 rfl ?_
              refine V_ireti hC rfl kX2_brightnessAt_148 ?_
              refine ⟨cI ?_, by with_reducible rfl⟩
              subst e_fu e_sp
              rw [W_bright]
              first
              | (rw [if_neg h131, if_neg hk, W_x]; done)
              | (rw [if_pos h131, if_neg (b0_of e_lw h136), W_x]; done)
              | (rw [if_pos h131, if_pos (b1_of e_lw h136), W_x]; done)
            · refine V_iload hC kX2_brightnessAt_134 rfl ?_
              refine V_if_eq hC 146 kX2_brightnessAt_136 (by decide) (fun h136 => ?_) (fun h136 => ?_)
              · refine V_iload hC kX2_brightnessAt_146 rfl ?_
                refine V_ireti hC rfl kX2_brightnessAt_148 ?_
                refine ⟨cI ?_, by with_reducible rfl⟩
                subst e_fu e_sp
                rw [W_bright]
                first
                | (rw [if_neg h131, if_neg hk, W_x]; done)
                | (rw [if_pos h131, if_neg (b0_of e_lw h136), W_x]; done)
                | (rw [if_pos h131, if_pos (b1_of e_lw h136), W_x]; done)
              · refine V_iload hC kX2_brightnessAt_139 rfl ?_
                refine V_iconst hC (2) kX2_brightnessAt_141 (by decide) ?_
                refine V_idiv hC kX2_brightnessAt_142 (by decide) ?_
                refine V_goto hC 148 kX2_brightnessAt_143 (by decide) ?_
                refine V_ireti hC rfl kX2_brightnessAt_148 ?_
                refine ⟨cI ?_, by with_reducible rfl⟩
                subst e_fu e_sp
                rw [W_bright]
                first
                | (rw [if_neg h131, if_neg hk, W_x]; done)
                | (rw [if_pos h131, if_neg (b0_of e_lw h136), W_x]; done)
                | (rw [if_pos h131, if_pos (b1_of e_lw h136), W_x]; done)
          · refine V_aload_n hC kX2_brightnessAt_100 rfl ?_
            refine V_getI hC 2 3 lfX2_21 kX2_brightnessAt_101 (Nat.le_of_ble_eq_true rfl) (Nat.le_of_ble_eq_true rfl) rfl ?_
            refine V_if_le hC 123 kX2_brightnessAt_104 (by decide) (fun h104 => absurd h104 hw.n.1) (fun h104 => ?_)
            refine V_iload_n hC kX2_brightnessAt_107 rfl ?_
            refine V_aload_n hC kX2_brightnessAt_108 rfl ?_
            refine V_getI hC 2 3 lfX2_21 kX2_brightnessAt_109 (Nat.le_of_ble_eq_true rfl) (Nat.le_of_ble_eq_true rfl) rfl ?_
            refine V_idiv hC kX2_brightnessAt_112 hw.n.2 ?_
            refine V_iconst hC (2) kX2_brightnessAt_113 (by decide) ?_
            refine V_irem hC kX2_brightnessAt_114 (by decide) ?_
            refine V_iconst hC (1) kX2_brightnessAt_115 (by decide) ?_
            refine V_icmp_ne hC 123 kX2_brightnessAt_116 (by decide) (fun h116 => ?_) (fun h116 => ?_)
            · refine V_iconst hC (0) kX2_brightnessAt_123 (by decide) ?_
              exact j124 _ ((b01_f h116).symm)
            · refine V_iconst hC (1) kX2_brightnessAt_119 (by decide) ?_
              refine V_goto hC 124 kX2_brightnessAt_120 (by decide) ?_
              exact j124 _ ((b01_t h116).symm)
        · refine V_iconst hC (0) kX2_brightnessAt_86 (by decide) ?_
          refine V_ireti hC rfl kX2_brightnessAt_87 ?_
          refine ⟨cI ?_, by with_reducible rfl⟩
          have hk : sg k 2 = 2 ∧ W_turned (sg k) p := ⟨h79, b1_of e_tu h83⟩
          rw [W_bright, if_neg (by rw [hk.1]; decide), if_pos hk]
    · refine V_iload_n hC kX2_brightnessAt_42 rfl ?_
      refine V_aload_n hC kX2_brightnessAt_43 rfl ?_
      refine V_getI hC 2 0 lfX2_9 kX2_brightnessAt_44 (Nat.le_of_ble_eq_true rfl) (Nat.le_of_ble_eq_true rfl) rfl ?_
      refine V_icmp_ge hC 59 kX2_brightnessAt_47 (by decide) (fun h47 => ?_) (fun h47 => ?_)
      · refine V_iload_n hC kX2_brightnessAt_59 rfl ?_
        refine V_aload_n hC kX2_brightnessAt_60 rfl ?_
        refine V_getI hC 2 0 lfX2_9 kX2_brightnessAt_61 (Nat.le_of_ble_eq_true rfl) (Nat.le_of_ble_eq_true rfl) rfl ?_
        refine V_isub hC kX2_brightnessAt_64 ?_
        exact j65 _ ((hw.abs.1 h47))
      · refine V_aload_n hC kX2_brightnessAt_50 rfl ?_
        refine V_getI hC 2 0 lfX2_9 kX2_brightnessAt_51 (Nat.le_of_ble_eq_true rfl) (Nat.le_of_ble_eq_true rfl) rfl ?_
        refine V_iload_n hC kX2_brightnessAt_54 rfl ?_
        refine V_isub hC kX2_brightnessAt_55 ?_
        refine V_goto hC 65 kX2_brightnessAt_56 (by decide) ?_
        exact j65 _ ((hw.abs.2 h47))
  · refine V_aload_n hC kX2_brightnessAt_0 rfl ?_
    refine V_getI hC 2 3 lfX2_21 kX2_brightnessAt_1 (Nat.le_of_ble_eq_true rfl) (Nat.le_of_ble_eq_true rfl) rfl ?_
    refine V_iconst hC (2) kX2_brightnessAt_4 (by decide) ?_
    refine V_irem hC kX2_brightnessAt_5 (by decide) ?_
    refine V_iconst hC (1) kX2_brightnessAt_6 (by decide) ?_
    refine V_icmp_ne hC 26 kX2_brightnessAt_7 (by decide) (fun h7 => ?_) (fun h7 => ?_)
    · refine V_iload_n hC kX2_brightnessAt_26 rfl ?_
      refine V_aload_n hC kX2_brightnessAt_27 rfl ?_
      refine V_getI hC 2 0 lfX2_9 kX2_brightnessAt_28 (Nat.le_of_ble_eq_true rfl) (Nat.le_of_ble_eq_true rfl) rfl ?_
      refine V_icmp_le hC 38 kX2_brightnessAt_31 (by decide) (fun h31 => ?_) (fun h31 => ?_)
      · refine V_iconst hC (0) kX2_brightnessAt_38 (by decide) ?_
        exact j39 _ ((b01_f (fun z => by rw [W_turned, if_neg h7] at z; exact h31 |> fun q => absurd (hw.lt.2.mp z) (Int32.not_lt.mpr q))).symm)
      · refine V_iconst hC (1) kX2_brightnessAt_34 (by decide) ?_
        refine V_goto hC 39 kX2_brightnessAt_35 (by decide) ?_
        exact j39 _ ((b01_t (by rw [W_turned, if_neg h7]; exact hw.lt.2.mpr (Int32.not_le.mp h31))).symm)
    · refine V_iload_n hC kX2_brightnessAt_10 rfl ?_
      refine V_aload_n hC kX2_brightnessAt_11 rfl ?_
      refine V_getI hC 2 0 lfX2_9 kX2_brightnessAt_12 (Nat.le_of_ble_eq_true rfl) (Nat.le_of_ble_eq_true rfl) rfl ?_
      refine V_icmp_ge hC 22 kX2_brightnessAt_15 (by decide) (fun h15 => ?_) (fun h15 => ?_)
      · refine V_iconst hC (0) kX2_brightnessAt_22 (by decide) ?_
        refine V_goto hC 39 kX2_brightnessAt_23 (by decide) ?_
        exact j39 _ ((b01_f (fun z => by rw [W_turned, if_pos h7] at z; exact absurd (hw.lt.1.mp z) (Int32.not_lt.mpr h15))).symm)
      · refine V_iconst hC (1) kX2_brightnessAt_18 (by decide) ?_
        refine V_goto hC 39 kX2_brightnessAt_19 (by decide) ?_
        exact j39 _ ((b01_t (by rw [W_turned, if_pos h7]; exact hw.lt.1.mpr (Int32.not_le.mp h15))).symm)
def mtX2_worthAt : Mt := (yX2_worthAt, cX2_worthAt, 3, (some .int), 1, 26, 0, 0)
theorem kX2_worthAt_0 : Dk mtX2_worthAt 0 (.aload_n 0) 1 1 := ⟨by decide +kernel, rfl⟩
theorem kX2_worthAt_1 : Dk mtX2_worthAt 1 (.iload_n 1) 1 2 := ⟨by decide +kernel, rfl⟩
theorem kX2_worthAt_2 : Dk mtX2_worthAt 2 (.iload_n 2) 1 3 := ⟨by decide +kernel, rfl⟩
theorem kX2_worthAt_3 : Dk mtX2_worthAt 3 (.invokevirtual 39) 3 6 := ⟨by decide +kernel, rfl⟩
theorem kX2_worthAt_6 : Dk mtX2_worthAt 6 (.aload_n 0) 1 7 := ⟨by decide +kernel, rfl⟩
theorem kX2_worthAt_7 : Dk mtX2_worthAt 7 (.getfield 30) 3 10 := ⟨by decide +kernel, rfl⟩
theorem kX2_worthAt_10 : Dk mtX2_worthAt 10 (.iadd) 1 11 := ⟨by decide +kernel, rfl⟩
theorem kX2_worthAt_11 : Dk mtX2_worthAt 11 (.ireturn) 1 12 := ⟨by decide +kernel, rfl⟩
theorem lmX2_39 : LkM RX2 39 mtX2_brightnessAt := Or.inl (by decide +kernel)
theorem mkX2_brightnessAt : MkV mtX2_brightnessAt 2 := ⟨List.mem_of_getElem? (i := 362) (by decide +kernel), by decide +kernel, by decide +kernel, by decide +kernel, ⟨by decide +kernel, by decide +kernel, by decide +kernel⟩⟩
set_option maxHeartbeats 4000000 in
set_option maxRecDepth 100000 in
theorem cl_worth {l : Launch} {w : Wd} {sg : Sg} (hWr : Wr w) {k : Nat} (p t : Int32) (hw : okW (sg k) p) : M l mtX2_worthAt w [vR (some (2, 0, k)), vI p, vI t] sg (fI (W_worth (sg k) p t) sg) := by
  refine M_of [some (vR (some (2, 0, k))), some (vI p), some (vI t)] rfl (Nat.le_of_ble_eq_true rfl) (by decide +kernel) ?_
  intro p_ e_ s_ m_ args_ below_ meth_ c_ hC hO
  refine V_aload_n hC kX2_worthAt_0 rfl ?_
  refine V_iload_n hC kX2_worthAt_1 rfl ?_
  refine V_iload_n hC kX2_worthAt_2 rfl ?_
  refine V_cV_fI hC (cl_bright hWr p t hw) mkX2_brightnessAt lmX2_39 kX2_worthAt_3 (Nat.le_of_ble_eq_true rfl) rfl rfl rfl (Nat.le_of_ble_eq_true rfl) ⟨(Nat.le_of_ble_eq_true rfl), (Nat.le_of_ble_eq_true rfl)⟩ ⟨rfl, rfl⟩ ⟨(Nat.le_of_ble_eq_true rfl), (Nat.le_of_ble_eq_true rfl)⟩ ?_
  refine V_aload_n hC kX2_worthAt_6 rfl ?_
  refine V_getI hC 2 6 lfX2_30 kX2_worthAt_7 (Nat.le_of_ble_eq_true rfl) (Nat.le_of_ble_eq_true rfl) rfl ?_
  refine V_iadd hC kX2_worthAt_10 ?_
  refine V_ireti hC rfl kX2_worthAt_11 ?_
  refine ⟨cI ?_, by with_reducible rfl⟩
  unfold W_worth
  with_reducible rfl
def mtJ6_bitCount_0f7a4 : Mt := (yJ6_bitCount_0f7a4, cJ6_bitCount_0f7a4, 1, (some .int), 0, 0, 0, 0)
theorem kJ6_bitCount_0f7a4_0 : Dk mtJ6_bitCount_0f7a4 0 (.iload_n 0) 1 1 := ⟨by decide +kernel, rfl⟩
theorem kJ6_bitCount_0f7a4_1 : Dk mtJ6_bitCount_0f7a4 1 (.iload_n 0) 1 2 := ⟨by decide +kernel, rfl⟩
theorem kJ6_bitCount_0f7a4_2 : Dk mtJ6_bitCount_0f7a4 2 (.iconst 1) 1 3 := ⟨by decide +kernel, rfl⟩
theorem kJ6_bitCount_0f7a4_3 : Dk mtJ6_bitCount_0f7a4 3 (.iushr) 1 4 := ⟨by decide +kernel, rfl⟩
theorem kJ6_bitCount_0f7a4_4 : Dk mtJ6_bitCount_0f7a4 4 (.ldc_w 265) 3 7 := ⟨by decide +kernel, rfl⟩
theorem kJ6_bitCount_0f7a4_7 : Dk mtJ6_bitCount_0f7a4 7 (.iand) 1 8 := ⟨by decide +kernel, rfl⟩
theorem kJ6_bitCount_0f7a4_8 : Dk mtJ6_bitCount_0f7a4 8 (.isub) 1 9 := ⟨by decide +kernel, rfl⟩
theorem kJ6_bitCount_0f7a4_9 : Dk mtJ6_bitCount_0f7a4 9 (.istore_n 0) 1 10 := ⟨by decide +kernel, rfl⟩
theorem kJ6_bitCount_0f7a4_10 : Dk mtJ6_bitCount_0f7a4 10 (.iload_n 0) 1 11 := ⟨by decide +kernel, rfl⟩
theorem kJ6_bitCount_0f7a4_11 : Dk mtJ6_bitCount_0f7a4 11 (.ldc_w 266) 3 14 := ⟨by decide +kernel, rfl⟩
theorem kJ6_bitCount_0f7a4_14 : Dk mtJ6_bitCount_0f7a4 14 (.iand) 1 15 := ⟨by decide +kernel, rfl⟩
theorem kJ6_bitCount_0f7a4_15 : Dk mtJ6_bitCount_0f7a4 15 (.iload_n 0) 1 16 := ⟨by decide +kernel, rfl⟩
theorem kJ6_bitCount_0f7a4_16 : Dk mtJ6_bitCount_0f7a4 16 (.iconst 2) 1 17 := ⟨by decide +kernel, rfl⟩
theorem kJ6_bitCount_0f7a4_17 : Dk mtJ6_bitCount_0f7a4 17 (.iushr) 1 18 := ⟨by decide +kernel, rfl⟩
theorem kJ6_bitCount_0f7a4_18 : Dk mtJ6_bitCount_0f7a4 18 (.ldc_w 266) 3 21 := ⟨by decide +kernel, rfl⟩
theorem kJ6_bitCount_0f7a4_21 : Dk mtJ6_bitCount_0f7a4 21 (.iand) 1 22 := ⟨by decide +kernel, rfl⟩
theorem kJ6_bitCount_0f7a4_22 : Dk mtJ6_bitCount_0f7a4 22 (.iadd) 1 23 := ⟨by decide +kernel, rfl⟩
theorem kJ6_bitCount_0f7a4_23 : Dk mtJ6_bitCount_0f7a4 23 (.istore_n 0) 1 24 := ⟨by decide +kernel, rfl⟩
theorem kJ6_bitCount_0f7a4_24 : Dk mtJ6_bitCount_0f7a4 24 (.iload_n 0) 1 25 := ⟨by decide +kernel, rfl⟩
theorem kJ6_bitCount_0f7a4_25 : Dk mtJ6_bitCount_0f7a4 25 (.iload_n 0) 1 26 := ⟨by decide +kernel, rfl⟩
theorem kJ6_bitCount_0f7a4_26 : Dk mtJ6_bitCount_0f7a4 26 (.iconst 4) 1 27 := ⟨by decide +kernel, rfl⟩
theorem kJ6_bitCount_0f7a4_27 : Dk mtJ6_bitCount_0f7a4 27 (.iushr) 1 28 := ⟨by decide +kernel, rfl⟩
theorem kJ6_bitCount_0f7a4_28 : Dk mtJ6_bitCount_0f7a4 28 (.iadd) 1 29 := ⟨by decide +kernel, rfl⟩
theorem kJ6_bitCount_0f7a4_29 : Dk mtJ6_bitCount_0f7a4 29 (.ldc_w 267) 3 32 := ⟨by decide +kernel, rfl⟩
theorem kJ6_bitCount_0f7a4_32 : Dk mtJ6_bitCount_0f7a4 32 (.iand) 1 33 := ⟨by decide +kernel, rfl⟩
theorem kJ6_bitCount_0f7a4_33 : Dk mtJ6_bitCount_0f7a4 33 (.istore_n 0) 1 34 := ⟨by decide +kernel, rfl⟩
theorem kJ6_bitCount_0f7a4_34 : Dk mtJ6_bitCount_0f7a4 34 (.iload_n 0) 1 35 := ⟨by decide +kernel, rfl⟩
theorem kJ6_bitCount_0f7a4_35 : Dk mtJ6_bitCount_0f7a4 35 (.iload_n 0) 1 36 := ⟨by decide +kernel, rfl⟩
theorem kJ6_bitCount_0f7a4_36 : Dk mtJ6_bitCount_0f7a4 36 (.bipush 8) 2 38 := ⟨by decide +kernel, rfl⟩
theorem kJ6_bitCount_0f7a4_38 : Dk mtJ6_bitCount_0f7a4 38 (.iushr) 1 39 := ⟨by decide +kernel, rfl⟩
theorem kJ6_bitCount_0f7a4_39 : Dk mtJ6_bitCount_0f7a4 39 (.iadd) 1 40 := ⟨by decide +kernel, rfl⟩
theorem kJ6_bitCount_0f7a4_40 : Dk mtJ6_bitCount_0f7a4 40 (.istore_n 0) 1 41 := ⟨by decide +kernel, rfl⟩
theorem kJ6_bitCount_0f7a4_41 : Dk mtJ6_bitCount_0f7a4 41 (.iload_n 0) 1 42 := ⟨by decide +kernel, rfl⟩
theorem kJ6_bitCount_0f7a4_42 : Dk mtJ6_bitCount_0f7a4 42 (.iload_n 0) 1 43 := ⟨by decide +kernel, rfl⟩
theorem kJ6_bitCount_0f7a4_43 : Dk mtJ6_bitCount_0f7a4 43 (.bipush 16) 2 45 := ⟨by decide +kernel, rfl⟩
theorem kJ6_bitCount_0f7a4_45 : Dk mtJ6_bitCount_0f7a4 45 (.iushr) 1 46 := ⟨by decide +kernel, rfl⟩
theorem kJ6_bitCount_0f7a4_46 : Dk mtJ6_bitCount_0f7a4 46 (.iadd) 1 47 := ⟨by decide +kernel, rfl⟩
theorem kJ6_bitCount_0f7a4_47 : Dk mtJ6_bitCount_0f7a4 47 (.istore_n 0) 1 48 := ⟨by decide +kernel, rfl⟩
theorem kJ6_bitCount_0f7a4_48 : Dk mtJ6_bitCount_0f7a4 48 (.iload_n 0) 1 49 := ⟨by decide +kernel, rfl⟩
theorem kJ6_bitCount_0f7a4_49 : Dk mtJ6_bitCount_0f7a4 49 (.bipush 63) 2 51 := ⟨by decide +kernel, rfl⟩
theorem kJ6_bitCount_0f7a4_51 : Dk mtJ6_bitCount_0f7a4 51 (.iand) 1 52 := ⟨by decide +kernel, rfl⟩
theorem kJ6_bitCount_0f7a4_52 : Dk mtJ6_bitCount_0f7a4 52 (.ireturn) 1 53 := ⟨by decide +kernel, rfl⟩
theorem lcJ6_265 : Cond.constant RJ6 265 (1431655765) ∈ lw_tbl := by decide +kernel
theorem lcJ6_266 : Cond.constant RJ6 266 (858993459) ∈ lw_tbl := by decide +kernel
theorem lcJ6_267 : Cond.constant RJ6 267 (252645135) ∈ lw_tbl := by decide +kernel
set_option maxHeartbeats 4000000 in
set_option maxRecDepth 100000 in
theorem cl_bitCount {l : Launch} {w : Wd} {sg : Sg} (hWr : Wr w) (x : Int32) : M l mtJ6_bitCount_0f7a4 w [vI x] sg (fI (C_bc x) sg) := by
  refine M_of [some (vI x)] rfl (Nat.le_of_ble_eq_true rfl) (by decide +kernel) ?_
  intro p_ e_ s_ m_ args_ below_ meth_ c_ hC hO
  refine V_iload_n hC kJ6_bitCount_0f7a4_0 rfl ?_
  refine V_iload_n hC kJ6_bitCount_0f7a4_1 rfl ?_
  refine V_iconst hC (1) kJ6_bitCount_0f7a4_2 (by decide) ?_
  refine V_iushr hC kJ6_bitCount_0f7a4_3 ?_
  refine V_ldcw hC lcJ6_265 kJ6_bitCount_0f7a4_4 ?_
  refine V_iand hC kJ6_bitCount_0f7a4_7 ?_
  refine V_isub hC kJ6_bitCount_0f7a4_8 ?_
  refine V_nameI (fun y1 e_y1 => ?_)
  refine V_istore_n hC [some _] kJ6_bitCount_0f7a4_9 rfl (Nat.le_of_ble_eq_true rfl) ?_
  refine V_iload_n hC kJ6_bitCount_0f7a4_10 rfl ?_
  refine V_ldcw hC lcJ6_266 kJ6_bitCount_0f7a4_11 ?_
  refine V_iand hC kJ6_bitCount_0f7a4_14 ?_
  refine V_iload_n hC kJ6_bitCount_0f7a4_15 rfl ?_
  refine V_iconst hC (2) kJ6_bitCount_0f7a4_16 (by decide) ?_
  refine V_iushr hC kJ6_bitCount_0f7a4_17 ?_
  refine V_ldcw hC lcJ6_266 kJ6_bitCount_0f7a4_18 ?_
  refine V_iand hC kJ6_bitCount_0f7a4_21 ?_
  refine V_iadd hC kJ6_bitCount_0f7a4_22 ?_
  refine V_nameI (fun y2 e_y2 => ?_)
  refine V_istore_n hC [some _] kJ6_bitCount_0f7a4_23 rfl (Nat.le_of_ble_eq_true rfl) ?_
  refine V_iload_n hC kJ6_bitCount_0f7a4_24 rfl ?_
  refine V_iload_n hC kJ6_bitCount_0f7a4_25 rfl ?_
  refine V_iconst hC (4) kJ6_bitCount_0f7a4_26 (by decide) ?_
  refine V_iushr hC kJ6_bitCount_0f7a4_27 ?_
  refine V_iadd hC kJ6_bitCount_0f7a4_28 ?_
  refine V_ldcw hC lcJ6_267 kJ6_bitCount_0f7a4_29 ?_
  refine V_iand hC kJ6_bitCount_0f7a4_32 ?_
  refine V_nameI (fun y3 e_y3 => ?_)
  refine V_istore_n hC [some _] kJ6_bitCount_0f7a4_33 rfl (Nat.le_of_ble_eq_true rfl) ?_
  refine V_iload_n hC kJ6_bitCount_0f7a4_34 rfl ?_
  refine V_iload_n hC kJ6_bitCount_0f7a4_35 rfl ?_
  refine V_bipush hC (8) kJ6_bitCount_0f7a4_36 (by decide) ?_
  refine V_iushr hC kJ6_bitCount_0f7a4_38 ?_
  refine V_iadd hC kJ6_bitCount_0f7a4_39 ?_
  refine V_nameI (fun y4 e_y4 => ?_)
  refine V_istore_n hC [some _] kJ6_bitCount_0f7a4_40 rfl (Nat.le_of_ble_eq_true rfl) ?_
  refine V_iload_n hC kJ6_bitCount_0f7a4_41 rfl ?_
  refine V_iload_n hC kJ6_bitCount_0f7a4_42 rfl ?_
  refine V_bipush hC (16) kJ6_bitCount_0f7a4_43 (by decide) ?_
  refine V_iushr hC kJ6_bitCount_0f7a4_45 ?_
  refine V_iadd hC kJ6_bitCount_0f7a4_46 ?_
  refine V_nameI (fun y5 e_y5 => ?_)
  refine V_istore_n hC [some _] kJ6_bitCount_0f7a4_47 rfl (Nat.le_of_ble_eq_true rfl) ?_
  refine V_iload_n hC kJ6_bitCount_0f7a4_48 rfl ?_
  refine V_bipush hC (63) kJ6_bitCount_0f7a4_49 (by decide) ?_
  refine V_iand hC kJ6_bitCount_0f7a4_51 ?_
  refine V_ireti hC rfl kJ6_bitCount_0f7a4_52 ?_
  refine ⟨cI ?_, by with_reducible rfl⟩
  subst e_y5 e_y4 e_y3 e_y2 e_y1
  unfold C_bc C_bc5 C_bc4 C_bc3 C_bc2 C_bc1
  with_reducible rfl
def mtX2_servedCount : Mt := (yX2_servedCount, cX2_servedCount, 1, (some .int), 1, 20, 0, 0)
theorem kX2_servedCount_0 : Dk mtX2_servedCount 0 (.aload_n 0) 1 1 := ⟨by decide +kernel, rfl⟩
theorem kX2_servedCount_1 : Dk mtX2_servedCount 1 (.getfield 33) 3 4 := ⟨by decide +kernel, rfl⟩
theorem kX2_servedCount_4 : Dk mtX2_servedCount 4 (.invokestatic 43) 3 7 := ⟨by decide +kernel, rfl⟩
theorem kX2_servedCount_7 : Dk mtX2_servedCount 7 (.ireturn) 1 8 := ⟨by decide +kernel, rfl⟩
theorem lmX2_43 : LkM RX2 43 mtJ6_bitCount_0f7a4 := Or.inl (by decide +kernel)
theorem mkJ6_bitCount_0f7a4 : MkS mtJ6_bitCount_0f7a4 1 := ⟨List.mem_of_getElem? (i := 565) (by decide +kernel), by decide +kernel, by decide +kernel, ⟨by decide +kernel, by decide +kernel, by decide +kernel⟩⟩
set_option maxHeartbeats 4000000 in
set_option maxRecDepth 100000 in
theorem cl_servedCount {l : Launch} {w : Wd} {sg : Sg} (hWr : Wr w) {k : Nat} : M l mtX2_servedCount w [vR (some (2, 0, k))] sg (fI (C_bc ((sg k) 7)) sg) := by
  refine M_of [some (vR (some (2, 0, k)))] rfl (Nat.le_of_ble_eq_true rfl) (by decide +kernel) ?_
  intro p_ e_ s_ m_ args_ below_ meth_ c_ hC hO
  refine V_aload_n hC kX2_servedCount_0 rfl ?_
  refine V_getI hC 2 7 lfX2_33 kX2_servedCount_1 (Nat.le_of_ble_eq_true rfl) (Nat.le_of_ble_eq_true rfl) rfl ?_
  refine V_cS_fI hC (cl_bitCount hWr _) mkJ6_bitCount_0f7a4 lmX2_43 kX2_servedCount_4 rfl rfl (Nat.le_of_ble_eq_true rfl) ⟨(Nat.le_of_ble_eq_true rfl), (Nat.le_of_ble_eq_true rfl)⟩ ⟨rfl, rfl⟩ ⟨(Nat.le_of_ble_eq_true rfl), (Nat.le_of_ble_eq_true rfl)⟩ ?_
  refine V_ireti hC rfl kX2_servedCount_7 ?_
  exact ⟨by with_reducible rfl, by with_reducible rfl⟩
def mtX2_takesHandedOn : Mt := (yX2_takesHandedOn, cX2_takesHandedOn, 1, (some .boolean), 2, 40, 0, 0)
theorem kX2_takesHandedOn_0 : Dk mtX2_takesHandedOn 0 (.aload_n 0) 1 1 := ⟨by decide +kernel, rfl⟩
theorem kX2_takesHandedOn_1 : Dk mtX2_takesHandedOn 1 (.invokevirtual 49) 3 4 := ⟨by decide +kernel, rfl⟩
theorem kX2_takesHandedOn_4 : Dk mtX2_takesHandedOn 4 (.aload_n 0) 1 5 := ⟨by decide +kernel, rfl⟩
theorem kX2_takesHandedOn_5 : Dk mtX2_takesHandedOn 5 (.getfield 24) 3 8 := ⟨by decide +kernel, rfl⟩
theorem kX2_takesHandedOn_8 : Dk mtX2_takesHandedOn 8 (.if_icmp .ge 7) 3 11 := ⟨by decide +kernel, rfl⟩
theorem kX2_takesHandedOn_11 : Dk mtX2_takesHandedOn 11 (.iconst 1) 1 12 := ⟨by decide +kernel, rfl⟩
theorem kX2_takesHandedOn_12 : Dk mtX2_takesHandedOn 12 (.goto 4) 3 15 := ⟨by decide +kernel, rfl⟩
theorem kX2_takesHandedOn_15 : Dk mtX2_takesHandedOn 15 (.iconst 0) 1 16 := ⟨by decide +kernel, rfl⟩
theorem kX2_takesHandedOn_16 : Dk mtX2_takesHandedOn 16 (.ireturn) 1 17 := ⟨by decide +kernel, rfl⟩
theorem lmX2_49 : LkM RX2 49 mtX2_servedCount := Or.inl (by decide +kernel)
theorem mkX2_servedCount : MkV mtX2_servedCount 0 := ⟨List.mem_of_getElem? (i := 562) (by decide +kernel), by decide +kernel, by decide +kernel, by decide +kernel, ⟨by decide +kernel, by decide +kernel, by decide +kernel⟩⟩
set_option maxHeartbeats 4000000 in
set_option maxRecDepth 100000 in
theorem cl_takesHandedOn {l : Launch} {w : Wd} {sg : Sg} (hWr : Wr w) {k : Nat} : M l mtX2_takesHandedOn w [vR (some (2, 0, k))] sg (fI (b01 (C_bc ((sg k) 7) < (sg k) 4)) sg) := by
  refine M_of [some (vR (some (2, 0, k)))] rfl (Nat.le_of_ble_eq_true rfl) (by decide +kernel) ?_
  intro p_ e_ s_ m_ args_ below_ meth_ c_ hC hO
  refine V_aload_n hC kX2_takesHandedOn_0 rfl ?_
  refine V_cV_fI hC (cl_servedCount hWr) mkX2_servedCount lmX2_49 kX2_takesHandedOn_1 (Nat.le_of_ble_eq_true rfl) rfl rfl rfl (Nat.le_of_ble_eq_true rfl) ⟨(Nat.le_of_ble_eq_true rfl), (Nat.le_of_ble_eq_true rfl)⟩ ⟨rfl, rfl⟩ ⟨(Nat.le_of_ble_eq_true rfl), (Nat.le_of_ble_eq_true rfl)⟩ ?_
  refine V_aload_n hC kX2_takesHandedOn_4 rfl ?_
  refine V_getI hC 2 4 lfX2_24 kX2_takesHandedOn_5 (Nat.le_of_ble_eq_true rfl) (Nat.le_of_ble_eq_true rfl) rfl ?_
  refine V_icmp_ge hC 15 kX2_takesHandedOn_8 (by decide) (fun h8 => ?_) (fun h8 => ?_)
  · refine V_iconst hC (0) kX2_takesHandedOn_15 (by decide) ?_
    refine V_iretz hC rfl kX2_takesHandedOn_16 ?_ ?_
    · first | exact Or.inl rfl | exact Or.inr rfl
    · refine ⟨cI ?_, by with_reducible rfl⟩
      first
      | exact (b01_f (Int32.not_lt.mpr h8)).symm
      | exact (b01_t (Int32.not_le.mp h8)).symm
  · refine V_iconst hC (1) kX2_takesHandedOn_11 (by decide) ?_
    refine V_goto hC 16 kX2_takesHandedOn_12 (by decide) ?_
    refine V_iretz hC rfl kX2_takesHandedOn_16 ?_ ?_
    · first | exact Or.inl rfl | exact Or.inr rfl
    · refine ⟨cI ?_, by with_reducible rfl⟩
      first
      | exact (b01_f (Int32.not_lt.mpr h8)).symm
      | exact (b01_t (Int32.not_le.mp h8)).symm
def mtX2_takesOthers : Mt := (yX2_takesOthers, cX2_takesOthers, 1, (some .boolean), 2, 40, 0, 0)
theorem kX2_takesOthers_0 : Dk mtX2_takesOthers 0 (.aload_n 0) 1 1 := ⟨by decide +kernel, rfl⟩
theorem kX2_takesOthers_1 : Dk mtX2_takesOthers 1 (.invokevirtual 49) 3 4 := ⟨by decide +kernel, rfl⟩
theorem kX2_takesOthers_4 : Dk mtX2_takesOthers 4 (.aload_n 0) 1 5 := ⟨by decide +kernel, rfl⟩
theorem kX2_takesOthers_5 : Dk mtX2_takesOthers 5 (.getfield 24) 3 8 := ⟨by decide +kernel, rfl⟩
theorem kX2_takesOthers_8 : Dk mtX2_takesOthers 8 (.aload_n 0) 1 9 := ⟨by decide +kernel, rfl⟩
theorem kX2_takesOthers_9 : Dk mtX2_takesOthers 9 (.getfield 27) 3 12 := ⟨by decide +kernel, rfl⟩
theorem kX2_takesOthers_12 : Dk mtX2_takesOthers 12 (.isub) 1 13 := ⟨by decide +kernel, rfl⟩
theorem kX2_takesOthers_13 : Dk mtX2_takesOthers 13 (.if_icmp .ge 7) 3 16 := ⟨by decide +kernel, rfl⟩
theorem kX2_takesOthers_16 : Dk mtX2_takesOthers 16 (.iconst 1) 1 17 := ⟨by decide +kernel, rfl⟩
theorem kX2_takesOthers_17 : Dk mtX2_takesOthers 17 (.goto 4) 3 20 := ⟨by decide +kernel, rfl⟩
theorem kX2_takesOthers_20 : Dk mtX2_takesOthers 20 (.iconst 0) 1 21 := ⟨by decide +kernel, rfl⟩
theorem kX2_takesOthers_21 : Dk mtX2_takesOthers 21 (.ireturn) 1 22 := ⟨by decide +kernel, rfl⟩
set_option maxHeartbeats 4000000 in
set_option maxRecDepth 100000 in
theorem cl_takesOthers {l : Launch} {w : Wd} {sg : Sg} (hWr : Wr w) {k : Nat} : M l mtX2_takesOthers w [vR (some (2, 0, k))] sg (fI (b01 (C_bc ((sg k) 7) < (sg k) 4 - (sg k) 5)) sg) := by
  refine M_of [some (vR (some (2, 0, k)))] rfl (Nat.le_of_ble_eq_true rfl) (by decide +kernel) ?_
  intro p_ e_ s_ m_ args_ below_ meth_ c_ hC hO
  refine V_aload_n hC kX2_takesOthers_0 rfl ?_
  refine V_cV_fI hC (cl_servedCount hWr) mkX2_servedCount lmX2_49 kX2_takesOthers_1 (Nat.le_of_ble_eq_true rfl) rfl rfl rfl (Nat.le_of_ble_eq_true rfl) ⟨(Nat.le_of_ble_eq_true rfl), (Nat.le_of_ble_eq_true rfl)⟩ ⟨rfl, rfl⟩ ⟨(Nat.le_of_ble_eq_true rfl), (Nat.le_of_ble_eq_true rfl)⟩ ?_
  refine V_aload_n hC kX2_takesOthers_4 rfl ?_
  refine V_getI hC 2 4 lfX2_24 kX2_takesOthers_5 (Nat.le_of_ble_eq_true rfl) (Nat.le_of_ble_eq_true rfl) rfl ?_
  refine V_aload_n hC kX2_takesOthers_8 rfl ?_
  refine V_getI hC 2 5 lfX2_27 kX2_takesOthers_9 (Nat.le_of_ble_eq_true rfl) (Nat.le_of_ble_eq_true rfl) rfl ?_
  refine V_isub hC kX2_takesOthers_12 ?_
  refine V_icmp_ge hC 20 kX2_takesOthers_13 (by decide) (fun h13 => ?_) (fun h13 => ?_)
  · refine V_iconst hC (0) kX2_takesOthers_20 (by decide) ?_
    refine V_iretz hC rfl kX2_takesOthers_21 ?_ ?_
    · first | exact Or.inl rfl | exact Or.inr rfl
    · refine ⟨cI ?_, by with_reducible rfl⟩
      first
      | exact (b01_f (Int32.not_lt.mpr h13)).symm
      | exact (b01_t (Int32.not_le.mp h13)).symm
  · refine V_iconst hC (1) kX2_takesOthers_16 (by decide) ?_
    refine V_goto hC 21 kX2_takesOthers_17 (by decide) ?_
    refine V_iretz hC rfl kX2_takesOthers_21 ?_ ?_
    · first | exact Or.inl rfl | exact Or.inr rfl
    · refine ⟨cI ?_, by with_reducible rfl⟩
      first
      | exact (b01_f (Int32.not_lt.mpr h13)).symm
      | exact (b01_t (Int32.not_le.mp h13)).symm
def mtX0_begin : Mt := (yX0_begin, cX0_begin, 3, none, 0, 0, 0, 0)
theorem kX0_begin_0 : Dk mtX0_begin 0 (.aload_n 0) 1 1 := ⟨by decide +kernel, rfl⟩
theorem kX0_begin_1 : Dk mtX0_begin 1 (.iload_n 1) 1 2 := ⟨by decide +kernel, rfl⟩
theorem kX0_begin_2 : Dk mtX0_begin 2 (.putfield 15) 3 5 := ⟨by decide +kernel, rfl⟩
theorem kX0_begin_5 : Dk mtX0_begin 5 (.aload_n 0) 1 6 := ⟨by decide +kernel, rfl⟩
theorem kX0_begin_6 : Dk mtX0_begin 6 (.iload_n 2) 1 7 := ⟨by decide +kernel, rfl⟩
theorem kX0_begin_7 : Dk mtX0_begin 7 (.putfield 18) 3 10 := ⟨by decide +kernel, rfl⟩
theorem kX0_begin_10 : Dk mtX0_begin 10 (.aload_n 0) 1 11 := ⟨by decide +kernel, rfl⟩
theorem kX0_begin_11 : Dk mtX0_begin 11 (.iconst (-1)) 1 12 := ⟨by decide +kernel, rfl⟩
theorem kX0_begin_12 : Dk mtX0_begin 12 (.putfield 21) 3 15 := ⟨by decide +kernel, rfl⟩
theorem kX0_begin_15 : Dk mtX0_begin 15 (.aload_n 0) 1 16 := ⟨by decide +kernel, rfl⟩
theorem kX0_begin_16 : Dk mtX0_begin 16 (.iconst 0) 1 17 := ⟨by decide +kernel, rfl⟩
theorem kX0_begin_17 : Dk mtX0_begin 17 (.putfield 24) 3 20 := ⟨by decide +kernel, rfl⟩
theorem kX0_begin_20 : Dk mtX0_begin 20 (.aload_n 0) 1 21 := ⟨by decide +kernel, rfl⟩
theorem kX0_begin_21 : Dk mtX0_begin 21 (.iconst (-1)) 1 22 := ⟨by decide +kernel, rfl⟩
theorem kX0_begin_22 : Dk mtX0_begin 22 (.putfield 27) 3 25 := ⟨by decide +kernel, rfl⟩
theorem kX0_begin_25 : Dk mtX0_begin 25 (.aload_n 0) 1 26 := ⟨by decide +kernel, rfl⟩
theorem kX0_begin_26 : Dk mtX0_begin 26 (.iconst 0) 1 27 := ⟨by decide +kernel, rfl⟩
theorem kX0_begin_27 : Dk mtX0_begin 27 (.putfield 30) 3 30 := ⟨by decide +kernel, rfl⟩
theorem kX0_begin_30 : Dk mtX0_begin 30 (.aload_n 0) 1 31 := ⟨by decide +kernel, rfl⟩
theorem kX0_begin_31 : Dk mtX0_begin 31 (.iconst (-1)) 1 32 := ⟨by decide +kernel, rfl⟩
theorem kX0_begin_32 : Dk mtX0_begin 32 (.putfield 33) 3 35 := ⟨by decide +kernel, rfl⟩
theorem kX0_begin_35 : Dk mtX0_begin 35 (.aload_n 0) 1 36 := ⟨by decide +kernel, rfl⟩
theorem kX0_begin_36 : Dk mtX0_begin 36 (.iconst 0) 1 37 := ⟨by decide +kernel, rfl⟩
theorem kX0_begin_37 : Dk mtX0_begin 37 (.putfield 36) 3 40 := ⟨by decide +kernel, rfl⟩
theorem kX0_begin_40 : Dk mtX0_begin 40 (.aload_n 0) 1 41 := ⟨by decide +kernel, rfl⟩
theorem kX0_begin_41 : Dk mtX0_begin 41 (.iconst 0) 1 42 := ⟨by decide +kernel, rfl⟩
theorem kX0_begin_42 : Dk mtX0_begin 42 (.putfield 39) 3 45 := ⟨by decide +kernel, rfl⟩
theorem kX0_begin_45 : Dk mtX0_begin 45 (.aload_n 0) 1 46 := ⟨by decide +kernel, rfl⟩
theorem kX0_begin_46 : Dk mtX0_begin 46 (.iconst 0) 1 47 := ⟨by decide +kernel, rfl⟩
theorem kX0_begin_47 : Dk mtX0_begin 47 (.putfield 42) 3 50 := ⟨by decide +kernel, rfl⟩
theorem kX0_begin_50 : Dk mtX0_begin 50 (.return_) 1 51 := ⟨by decide +kernel, rfl⟩
set_option maxHeartbeats 4000000 in
set_option maxRecDepth 100000 in
theorem cl_bbegin {l : Launch} {w : Wd} {sg : Sg} (hWr : Wr w) {k : Nat} (q v : Int32) : M l mtX0_begin w [vR (some (0, 0, k)), vI q, vI v] sg (fV0 (upr sg k (upd (upd (upd (upd (upd (upd (upd (upd (upd (upd (sg k) 1 q) 2 v) 3 (-1)) 4 0) 5 (-1)) 6 0) 7 (-1)) 8 0) 9 0) 10 0))) := by
  refine M_of [some (vR (some (0, 0, k))), some (vI q), some (vI v)] rfl (Nat.le_of_ble_eq_true rfl) (by decide +kernel) ?_
  intro p_ e_ s_ m_ args_ below_ meth_ c_ hC hO
  refine V_aload_n hC kX0_begin_0 rfl ?_
  refine V_iload_n hC kX0_begin_1 rfl ?_
  refine V_putI hC 0 1 lfX0_15 kX0_begin_2 (Nat.le_of_ble_eq_true rfl) (Nat.le_of_ble_eq_true rfl) rfl rfl ⟨rfl, rfl⟩ ?_
  refine V_aload_n hC kX0_begin_5 rfl ?_
  refine V_iload_n hC kX0_begin_6 rfl ?_
  refine V_putI hC 0 2 lfX0_18 kX0_begin_7 (Nat.le_of_ble_eq_true rfl) (Nat.le_of_ble_eq_true rfl) rfl rfl ⟨rfl, rfl⟩ ?_
  refine V_aload_n hC kX0_begin_10 rfl ?_
  refine V_iconst hC (-1) kX0_begin_11 (by decide) ?_
  refine V_putI hC 0 3 lfX0_21 kX0_begin_12 (Nat.le_of_ble_eq_true rfl) (Nat.le_of_ble_eq_true rfl) rfl rfl ⟨rfl, rfl⟩ ?_
  refine V_aload_n hC kX0_begin_15 rfl ?_
  refine V_iconst hC (0) kX0_begin_16 (by decide) ?_
  refine V_putI hC 0 4 lfX0_24 kX0_begin_17 (Nat.le_of_ble_eq_true rfl) (Nat.le_of_ble_eq_true rfl) rfl rfl ⟨rfl, rfl⟩ ?_
  refine V_aload_n hC kX0_begin_20 rfl ?_
  refine V_iconst hC (-1) kX0_begin_21 (by decide) ?_
  refine V_putI hC 0 5 lfX0_27 kX0_begin_22 (Nat.le_of_ble_eq_true rfl) (Nat.le_of_ble_eq_true rfl) rfl rfl ⟨rfl, rfl⟩ ?_
  refine V_aload_n hC kX0_begin_25 rfl ?_
  refine V_iconst hC (0) kX0_begin_26 (by decide) ?_
  refine V_putI hC 0 6 lfX0_30 kX0_begin_27 (Nat.le_of_ble_eq_true rfl) (Nat.le_of_ble_eq_true rfl) rfl rfl ⟨rfl, rfl⟩ ?_
  refine V_aload_n hC kX0_begin_30 rfl ?_
  refine V_iconst hC (-1) kX0_begin_31 (by decide) ?_
  refine V_putI hC 0 7 lfX0_33 kX0_begin_32 (Nat.le_of_ble_eq_true rfl) (Nat.le_of_ble_eq_true rfl) rfl rfl ⟨rfl, rfl⟩ ?_
  refine V_aload_n hC kX0_begin_35 rfl ?_
  refine V_iconst hC (0) kX0_begin_36 (by decide) ?_
  refine V_putI hC 0 8 lfX0_36 kX0_begin_37 (Nat.le_of_ble_eq_true rfl) (Nat.le_of_ble_eq_true rfl) rfl rfl ⟨rfl, rfl⟩ ?_
  refine V_aload_n hC kX0_begin_40 rfl ?_
  refine V_iconst hC (0) kX0_begin_41 (by decide) ?_
  refine V_putI hC 0 9 lfX0_39 kX0_begin_42 (Nat.le_of_ble_eq_true rfl) (Nat.le_of_ble_eq_true rfl) rfl rfl ⟨rfl, rfl⟩ ?_
  refine V_aload_n hC kX0_begin_45 rfl ?_
  refine V_iconst hC (0) kX0_begin_46 (by decide) ?_
  refine V_putI hC 0 10 lfX0_42 kX0_begin_47 (Nat.le_of_ble_eq_true rfl) (Nat.le_of_ble_eq_true rfl) rfl rfl ⟨rfl, rfl⟩ ?_
  refine V_vret hC rfl kX0_begin_50 ?_
  refine ⟨by with_reducible rfl, ?_⟩
  simp only [ups, upr_at, upr_upr]
def mtX0_move : Mt := (yX0_move, cX0_move, 1, none, 1, 20, 0, 0)
theorem kX0_move_0 : Dk mtX0_move 0 (.aload_n 0) 1 1 := ⟨by decide +kernel, rfl⟩
theorem kX0_move_1 : Dk mtX0_move 1 (.getfield 15) 3 4 := ⟨by decide +kernel, rfl⟩
theorem kX0_move_4 : Dk mtX0_move 4 (.aload_n 0) 1 5 := ⟨by decide +kernel, rfl⟩
theorem kX0_move_5 : Dk mtX0_move 5 (.getfield 18) 3 8 := ⟨by decide +kernel, rfl⟩
theorem kX0_move_8 : Dk mtX0_move 8 (.iadd) 1 9 := ⟨by decide +kernel, rfl⟩
theorem kX0_move_9 : Dk mtX0_move 9 (.invokestatic 45) 3 12 := ⟨by decide +kernel, rfl⟩
theorem kX0_move_12 : Dk mtX0_move 12 (.ifCond .eq 19) 3 15 := ⟨by decide +kernel, rfl⟩
theorem kX0_move_15 : Dk mtX0_move 15 (.aload_n 0) 1 16 := ⟨by decide +kernel, rfl⟩
theorem kX0_move_16 : Dk mtX0_move 16 (.dup) 1 17 := ⟨by decide +kernel, rfl⟩
theorem kX0_move_17 : Dk mtX0_move 17 (.getfield 15) 3 20 := ⟨by decide +kernel, rfl⟩
theorem kX0_move_20 : Dk mtX0_move 20 (.aload_n 0) 1 21 := ⟨by decide +kernel, rfl⟩
theorem kX0_move_21 : Dk mtX0_move 21 (.getfield 18) 3 24 := ⟨by decide +kernel, rfl⟩
theorem kX0_move_24 : Dk mtX0_move 24 (.iadd) 1 25 := ⟨by decide +kernel, rfl⟩
theorem kX0_move_25 : Dk mtX0_move 25 (.putfield 15) 3 28 := ⟨by decide +kernel, rfl⟩
theorem kX0_move_28 : Dk mtX0_move 28 (.goto 12) 3 31 := ⟨by decide +kernel, rfl⟩
theorem kX0_move_31 : Dk mtX0_move 31 (.aload_n 0) 1 32 := ⟨by decide +kernel, rfl⟩
theorem kX0_move_32 : Dk mtX0_move 32 (.aload_n 0) 1 33 := ⟨by decide +kernel, rfl⟩
theorem kX0_move_33 : Dk mtX0_move 33 (.getfield 18) 3 36 := ⟨by decide +kernel, rfl⟩
theorem kX0_move_36 : Dk mtX0_move 36 (.ineg) 1 37 := ⟨by decide +kernel, rfl⟩
theorem kX0_move_37 : Dk mtX0_move 37 (.putfield 18) 3 40 := ⟨by decide +kernel, rfl⟩
theorem kX0_move_40 : Dk mtX0_move 40 (.return_) 1 41 := ⟨by decide +kernel, rfl⟩
theorem lmX0_45 : LkM RX0 45 mtX5_isPlace := Or.inr (by decide +kernel)
theorem mkX5_isPlace : MkS mtX5_isPlace 1 := ⟨List.mem_of_getElem? (i := 329) (by decide +kernel), by decide +kernel, by decide +kernel, ⟨by decide +kernel, by decide +kernel, by decide +kernel⟩⟩
set_option maxHeartbeats 4000000 in
set_option maxRecDepth 100000 in
theorem cl_move {l : Launch} {w : Wd} {sg : Sg} (hWr : Wr w) {k : Nat} : M l mtX0_move w [vR (some (0, 0, k))] sg (fV0 (if inn ((sg k) 1 + (sg k) 2) 0 199 then ups sg k 1 ((sg k) 1 + (sg k) 2) else ups sg k 2 (-((sg k) 2)))) := by
  refine M_of [some (vR (some (0, 0, k)))] rfl (Nat.le_of_ble_eq_true rfl) (by decide +kernel) ?_
  intro p_ e_ s_ m_ args_ below_ meth_ c_ hC hO
  refine V_aload_n hC kX0_move_0 rfl ?_
  refine V_getI hC 0 1 lfX0_15 kX0_move_1 (Nat.le_of_ble_eq_true rfl) (Nat.le_of_ble_eq_true rfl) rfl ?_
  refine V_aload_n hC kX0_move_4 rfl ?_
  refine V_getI hC 0 2 lfX0_18 kX0_move_5 (Nat.le_of_ble_eq_true rfl) (Nat.le_of_ble_eq_true rfl) rfl ?_
  refine V_iadd hC kX0_move_8 ?_
  refine V_cS_fI hC (cl_isPlace hWr _) mkX5_isPlace lmX0_45 kX0_move_9 rfl rfl (Nat.le_of_ble_eq_true rfl) ⟨(Nat.le_of_ble_eq_true rfl), (Nat.le_of_ble_eq_true rfl)⟩ ⟨rfl, rfl⟩ ⟨(Nat.le_of_ble_eq_true rfl), (Nat.le_of_ble_eq_true rfl)⟩ ?_
  refine V_if_eq hC 31 kX0_move_12 (by decide) (fun h12 => ?_) (fun h12 => ?_)
  · refine V_aload_n hC kX0_move_31 rfl ?_
    refine V_aload_n hC kX0_move_32 rfl ?_
    refine V_getI hC 0 2 lfX0_18 kX0_move_33 (Nat.le_of_ble_eq_true rfl) (Nat.le_of_ble_eq_true rfl) rfl ?_
    refine V_ineg hC kX0_move_36 ?_
    refine V_putI hC 0 2 lfX0_18 kX0_move_37 (Nat.le_of_ble_eq_true rfl) (Nat.le_of_ble_eq_true rfl) rfl rfl ⟨rfl, rfl⟩ ?_
    refine V_vret hC rfl kX0_move_40 ?_
    refine ⟨by with_reducible rfl, ?_⟩
    first
    | rw [if_neg (b01e.mp h12)]
    | rw [if_pos (b01n.mp h12)]
  · refine V_aload_n hC kX0_move_15 rfl ?_
    refine V_dup hC kX0_move_16 rfl ?_
    refine V_getI hC 0 1 lfX0_15 kX0_move_17 (Nat.le_of_ble_eq_true rfl) (Nat.le_of_ble_eq_true rfl) rfl ?_
    refine V_aload_n hC kX0_move_20 rfl ?_
    refine V_getI hC 0 2 lfX0_18 kX0_move_21 (Nat.le_of_ble_eq_true rfl) (Nat.le_of_ble_eq_true rfl) rfl ?_
    refine V_iadd hC kX0_move_24 ?_
    refine V_putI hC 0 1 lfX0_15 kX0_move_25 (Nat.le_of_ble_eq_true rfl) (Nat.le_of_ble_eq_true rfl) rfl rfl ⟨rfl, rfl⟩ ?_
    refine V_goto hC 40 kX0_move_28 (by decide) ?_
    refine V_vret hC rfl kX0_move_40 ?_
    refine ⟨by with_reducible rfl, ?_⟩
    first
    | rw [if_neg (b01e.mp h12)]
    | rw [if_pos (b01n.mp h12)]
def mtX0_wishFor : Mt := (yX0_wishFor, cX0_wishFor, 2, none, 0, 0, 0, 0)
theorem kX0_wishFor_0 : Dk mtX0_wishFor 0 (.iload_n 1) 1 1 := ⟨by decide +kernel, rfl⟩
theorem kX0_wishFor_1 : Dk mtX0_wishFor 1 (.iconst (-1)) 1 2 := ⟨by decide +kernel, rfl⟩
theorem kX0_wishFor_2 : Dk mtX0_wishFor 2 (.if_icmp .ne 11) 3 5 := ⟨by decide +kernel, rfl⟩
theorem kX0_wishFor_5 : Dk mtX0_wishFor 5 (.aload_n 0) 1 6 := ⟨by decide +kernel, rfl⟩
theorem kX0_wishFor_6 : Dk mtX0_wishFor 6 (.iconst 0) 1 7 := ⟨by decide +kernel, rfl⟩
theorem kX0_wishFor_7 : Dk mtX0_wishFor 7 (.putfield 30) 3 10 := ⟨by decide +kernel, rfl⟩
theorem kX0_wishFor_10 : Dk mtX0_wishFor 10 (.goto 25) 3 13 := ⟨by decide +kernel, rfl⟩
theorem kX0_wishFor_13 : Dk mtX0_wishFor 13 (.aload_n 0) 1 14 := ⟨by decide +kernel, rfl⟩
theorem kX0_wishFor_14 : Dk mtX0_wishFor 14 (.iload_n 1) 1 15 := ⟨by decide +kernel, rfl⟩
theorem kX0_wishFor_15 : Dk mtX0_wishFor 15 (.aload_n 0) 1 16 := ⟨by decide +kernel, rfl⟩
theorem kX0_wishFor_16 : Dk mtX0_wishFor 16 (.getfield 27) 3 19 := ⟨by decide +kernel, rfl⟩
theorem kX0_wishFor_19 : Dk mtX0_wishFor 19 (.if_icmp .ne 12) 3 22 := ⟨by decide +kernel, rfl⟩
theorem kX0_wishFor_22 : Dk mtX0_wishFor 22 (.aload_n 0) 1 23 := ⟨by decide +kernel, rfl⟩
theorem kX0_wishFor_23 : Dk mtX0_wishFor 23 (.getfield 30) 3 26 := ⟨by decide +kernel, rfl⟩
theorem kX0_wishFor_26 : Dk mtX0_wishFor 26 (.iconst 1) 1 27 := ⟨by decide +kernel, rfl⟩
theorem kX0_wishFor_27 : Dk mtX0_wishFor 27 (.iadd) 1 28 := ⟨by decide +kernel, rfl⟩
theorem kX0_wishFor_28 : Dk mtX0_wishFor 28 (.goto 4) 3 31 := ⟨by decide +kernel, rfl⟩
theorem kX0_wishFor_31 : Dk mtX0_wishFor 31 (.iconst 1) 1 32 := ⟨by decide +kernel, rfl⟩
theorem kX0_wishFor_32 : Dk mtX0_wishFor 32 (.putfield 30) 3 35 := ⟨by decide +kernel, rfl⟩
theorem kX0_wishFor_35 : Dk mtX0_wishFor 35 (.aload_n 0) 1 36 := ⟨by decide +kernel, rfl⟩
theorem kX0_wishFor_36 : Dk mtX0_wishFor 36 (.iload_n 1) 1 37 := ⟨by decide +kernel, rfl⟩
theorem kX0_wishFor_37 : Dk mtX0_wishFor 37 (.putfield 27) 3 40 := ⟨by decide +kernel, rfl⟩
theorem kX0_wishFor_40 : Dk mtX0_wishFor 40 (.return_) 1 41 := ⟨by decide +kernel, rfl⟩
set_option maxHeartbeats 4000000 in
set_option maxRecDepth 100000 in
theorem cl_wishFor {l : Launch} {w : Wd} {sg : Sg} (hWr : Wr w) {k : Nat} (a : Int32) : M l mtX0_wishFor w [vR (some (0, 0, k)), vI a] sg (fV0 (upr sg k (upd (upd (sg k) 6 (if a = -1 then 0 else if a = (sg k) 5 then (sg k) 6 + 1 else 1)) 5 a))) := by
  refine M_of [some (vR (some (0, 0, k))), some (vI a)] rfl (Nat.le_of_ble_eq_true rfl) (by decide +kernel) ?_
  intro p_ e_ s_ m_ args_ below_ meth_ c_ hC hO
  refine V_joinS 35 (upr sg k (upd (sg k) 6 (if a = -1 then 0 else if a = (sg k) 5 then (sg k) 6 + 1 else 1))) ?_ (fun j35 => ?_)
  · refine V_aload_n hC kX0_wishFor_35 rfl ?_
    refine V_iload_n hC kX0_wishFor_36 rfl ?_
    refine V_putI hC 0 5 lfX0_27 kX0_wishFor_37 (Nat.le_of_ble_eq_true rfl) (Nat.le_of_ble_eq_true rfl) rfl rfl ⟨rfl, rfl⟩ ?_
    refine V_vret hC rfl kX0_wishFor_40 ?_
    refine ⟨by with_reducible rfl, ?_⟩
    unfold ups
    rw [upr_at, upr_upr]
  · refine V_iload_n hC kX0_wishFor_0 rfl ?_
    refine V_iconst hC (-1) kX0_wishFor_1 (by decide) ?_
    refine V_icmp_ne hC 13 kX0_wishFor_2 (by decide) (fun h2 => ?_) (fun h2 => ?_)
    · refine V_aload_n hC kX0_wishFor_13 rfl ?_
      refine V_iload_n hC kX0_wishFor_14 rfl ?_
      refine V_aload_n hC kX0_wishFor_15 rfl ?_
      refine V_getI hC 0 5 lfX0_27 kX0_wishFor_16 (Nat.le_of_ble_eq_true rfl) (Nat.le_of_ble_eq_true rfl) rfl ?_
      refine V_icmp_ne hC 31 kX0_wishFor_19 (by decide) (fun h19 => ?_) (fun h19 => ?_)
      · refine V_iconst hC (1) kX0_wishFor_31 (by decide) ?_
        refine V_putI hC 0 6 lfX0_30 kX0_wishFor_32 (Nat.le_of_ble_eq_true rfl) (Nat.le_of_ble_eq_true rfl) rfl rfl ⟨rfl, rfl⟩ ?_
        exact j35 _ (by unfold ups; rw [if_neg h2, if_neg h19])
      · refine V_aload_n hC kX0_wishFor_22 rfl ?_
        refine V_getI hC 0 6 lfX0_30 kX0_wishFor_23 (Nat.le_of_ble_eq_true rfl) (Nat.le_of_ble_eq_true rfl) rfl ?_
        refine V_iconst hC (1) kX0_wishFor_26 (by decide) ?_
        refine V_iadd hC kX0_wishFor_27 ?_
        refine V_goto hC 32 kX0_wishFor_28 (by decide) ?_
        refine V_putI hC 0 6 lfX0_30 kX0_wishFor_32 (Nat.le_of_ble_eq_true rfl) (Nat.le_of_ble_eq_true rfl) rfl rfl ⟨rfl, rfl⟩ ?_
        exact j35 _ (by unfold ups; rw [if_neg h2, if_pos h19])
    · refine V_aload_n hC kX0_wishFor_5 rfl ?_
      refine V_iconst hC (0) kX0_wishFor_6 (by decide) ?_
      refine V_putI hC 0 6 lfX0_30 kX0_wishFor_7 (Nat.le_of_ble_eq_true rfl) (Nat.le_of_ble_eq_true rfl) rfl rfl ⟨rfl, rfl⟩ ?_
      refine V_goto hC 35 kX0_wishFor_10 (by decide) ?_
      exact j35 _ (by unfold ups; rw [if_pos h2])

