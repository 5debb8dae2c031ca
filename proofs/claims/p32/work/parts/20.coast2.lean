-- HOW cl_isPlace fI
-- HOW cl_isSpeed fI
-- HOW cl_isStrength fI
-- HOW cl_isTickCount fI
-- HOW cl_isSetting fI
-- HOW cl_isSlot fI
-- HOW cl_isSettingValue fI
-- HOW cl_shown fI
-- HOW cl_lbegin fV
-- HOW cl_lcopy fV
-- HOW cl_bcopy fV
-- HOW cl_lnum fI
-- HOW cl_bnum fI
-- HOW cl_bright fI
-- HOW cl_worth fI
-- HOW cl_bitCount fI
-- HOW cl_servedCount fI
-- HOW cl_takesHandedOn fI
-- HOW cl_takesOthers fI
-- HOW cl_bbegin fV
-- HOW cl_move fV
-- HOW cl_wishFor fV
-- HOW cl_lightR fR
-- HOW cl_lightN fR
-- HOW cl_boatR fR
-- HOW cl_boatN fR
-- HOW cl_setR fI
-- HOW cl_lightAt fR
-- HOW cl_lightAtNo fR
-- HOW cl_boatAt fR
-- HOW cl_boatAtNo fR
-- HOW cl_settingOf fI
-- HOW cl_servedBoats fI
-- HOW cl_talkingBoats fI
-- HOW cl_numberOf fI
-- HOW cl_brightest fI
-- HOW cl_isDark fI
-- HOW cl_freePlaces fI
-- HOW cl_lightFault fI
-- HOW cl_boatFault fI
-- HOW cl_steerFault fI
-- HOW cl_dimFault fI
-- HOW cl_leanFault fI
-- HOW cl_talkFault fI
-- HOW cl_putSpeed rI
-- HOW cl_putTalk rI
-- HOW cl_putLeaning rI
-- HOW cl_putStrength rI
-- HOW cl_putSetting rI
-- HOW cl_addLight rI
-- HOW cl_addBoat rI
-- HOW cl_tryLight rI
-- HOW cl_tryBoat rI
-- HOW cl_trySteer rI
-- HOW cl_tryTalk rI
-- HOW cl_tryLean rI
-- HOW cl_tryDim rI
/-! the class: a coast, what it is asked to do -/
theorem lfX1_107 : LkF RX1 107 0 1 := Or.inr (by decide +kernel)
def mtX1_lightFault : Mt := (yX1_lightFault, cX1_lightFault, 7, (some .int), 1, 20, 0, 0)
theorem kX1_lightFault_0 : Dk mtX1_lightFault 0 (.iload_n 1) 1 1 := ⟨by decide +kernel, rfl⟩
theorem kX1_lightFault_1 : Dk mtX1_lightFault 1 (.invokestatic 110) 3 4 := ⟨by decide +kernel, rfl⟩
theorem kX1_lightFault_4 : Dk mtX1_lightFault 4 (.ifCond .ne 5) 3 7 := ⟨by decide +kernel, rfl⟩
theorem kX1_lightFault_7 : Dk mtX1_lightFault 7 (.iconst 1) 1 8 := ⟨by decide +kernel, rfl⟩
theorem kX1_lightFault_8 : Dk mtX1_lightFault 8 (.ireturn) 1 9 := ⟨by decide +kernel, rfl⟩
theorem kX1_lightFault_9 : Dk mtX1_lightFault 9 (.iload_n 2) 1 10 := ⟨by decide +kernel, rfl⟩
theorem kX1_lightFault_10 : Dk mtX1_lightFault 10 (.invokestatic 114) 3 13 := ⟨by decide +kernel, rfl⟩
theorem kX1_lightFault_13 : Dk mtX1_lightFault 13 (.ifCond .eq 25) 3 16 := ⟨by decide +kernel, rfl⟩
theorem kX1_lightFault_16 : Dk mtX1_lightFault 16 (.iload_n 3) 1 17 := ⟨by decide +kernel, rfl⟩
theorem kX1_lightFault_17 : Dk mtX1_lightFault 17 (.ifCond .lt 21) 3 20 := ⟨by decide +kernel, rfl⟩
theorem kX1_lightFault_20 : Dk mtX1_lightFault 20 (.iload_n 3) 1 21 := ⟨by decide +kernel, rfl⟩
theorem kX1_lightFault_21 : Dk mtX1_lightFault 21 (.iconst 2) 1 22 := ⟨by decide +kernel, rfl⟩
theorem kX1_lightFault_22 : Dk mtX1_lightFault 22 (.if_icmp .gt 16) 3 25 := ⟨by decide +kernel, rfl⟩
theorem kX1_lightFault_25 : Dk mtX1_lightFault 25 (.iload 4) 2 27 := ⟨by decide +kernel, rfl⟩
theorem kX1_lightFault_27 : Dk mtX1_lightFault 27 (.iconst 1) 1 28 := ⟨by decide +kernel, rfl⟩
theorem kX1_lightFault_28 : Dk mtX1_lightFault 28 (.if_icmp .lt 10) 3 31 := ⟨by decide +kernel, rfl⟩
theorem kX1_lightFault_31 : Dk mtX1_lightFault 31 (.iload 4) 2 33 := ⟨by decide +kernel, rfl⟩
theorem kX1_lightFault_33 : Dk mtX1_lightFault 33 (.bipush 20) 2 35 := ⟨by decide +kernel, rfl⟩
theorem kX1_lightFault_35 : Dk mtX1_lightFault 35 (.if_icmp .le 5) 3 38 := ⟨by decide +kernel, rfl⟩
theorem kX1_lightFault_38 : Dk mtX1_lightFault 38 (.iconst 2) 1 39 := ⟨by decide +kernel, rfl⟩
theorem kX1_lightFault_39 : Dk mtX1_lightFault 39 (.ireturn) 1 40 := ⟨by decide +kernel, rfl⟩
theorem kX1_lightFault_40 : Dk mtX1_lightFault 40 (.iload 5) 2 42 := ⟨by decide +kernel, rfl⟩
theorem kX1_lightFault_42 : Dk mtX1_lightFault 42 (.iconst 1) 1 43 := ⟨by decide +kernel, rfl⟩
theorem kX1_lightFault_43 : Dk mtX1_lightFault 43 (.if_icmp .lt 22) 3 46 := ⟨by decide +kernel, rfl⟩
theorem kX1_lightFault_46 : Dk mtX1_lightFault 46 (.iload 5) 2 48 := ⟨by decide +kernel, rfl⟩
theorem kX1_lightFault_48 : Dk mtX1_lightFault 48 (.bipush 6) 2 50 := ⟨by decide +kernel, rfl⟩
theorem kX1_lightFault_50 : Dk mtX1_lightFault 50 (.if_icmp .gt 15) 3 53 := ⟨by decide +kernel, rfl⟩
theorem kX1_lightFault_53 : Dk mtX1_lightFault 53 (.iload 6) 2 55 := ⟨by decide +kernel, rfl⟩
theorem kX1_lightFault_55 : Dk mtX1_lightFault 55 (.ifCond .lt 10) 3 58 := ⟨by decide +kernel, rfl⟩
theorem kX1_lightFault_58 : Dk mtX1_lightFault 58 (.iload 6) 2 60 := ⟨by decide +kernel, rfl⟩
theorem kX1_lightFault_60 : Dk mtX1_lightFault 60 (.iload 5) 2 62 := ⟨by decide +kernel, rfl⟩
theorem kX1_lightFault_62 : Dk mtX1_lightFault 62 (.if_icmp .le 5) 3 65 := ⟨by decide +kernel, rfl⟩
theorem kX1_lightFault_65 : Dk mtX1_lightFault 65 (.iconst 2) 1 66 := ⟨by decide +kernel, rfl⟩
theorem kX1_lightFault_66 : Dk mtX1_lightFault 66 (.ireturn) 1 67 := ⟨by decide +kernel, rfl⟩
theorem kX1_lightFault_67 : Dk mtX1_lightFault 67 (.aload_n 0) 1 68 := ⟨by decide +kernel, rfl⟩
theorem kX1_lightFault_68 : Dk mtX1_lightFault 68 (.getfield 37) 3 71 := ⟨by decide +kernel, rfl⟩
theorem kX1_lightFault_71 : Dk mtX1_lightFault 71 (.bipush 6) 2 73 := ⟨by decide +kernel, rfl⟩
theorem kX1_lightFault_73 : Dk mtX1_lightFault 73 (.if_icmp .ge 7) 3 76 := ⟨by decide +kernel, rfl⟩
theorem kX1_lightFault_76 : Dk mtX1_lightFault 76 (.iconst 0) 1 77 := ⟨by decide +kernel, rfl⟩
theorem kX1_lightFault_77 : Dk mtX1_lightFault 77 (.goto 4) 3 80 := ⟨by decide +kernel, rfl⟩
theorem kX1_lightFault_80 : Dk mtX1_lightFault 80 (.iconst 3) 1 81 := ⟨by decide +kernel, rfl⟩
theorem kX1_lightFault_81 : Dk mtX1_lightFault 81 (.ireturn) 1 82 := ⟨by decide +kernel, rfl⟩
theorem lmX1_110 : LkM RX1 110 mtX5_isPlace := Or.inr (by decide +kernel)
theorem lmX1_114 : LkM RX1 114 mtX5_isStrength := Or.inr (by decide +kernel)
theorem mkX5_isStrength : MkS mtX5_isStrength 1 := ⟨List.mem_of_getElem? (i := 450) (by decide +kernel), by decide +kernel, by decide +kernel, ⟨by decide +kernel, by decide +kernel, by decide +kernel⟩⟩
set_option maxHeartbeats 4000000 in
set_option maxRecDepth 100000 in
theorem cl_lightFault {l : Launch} {w : Wd} {sg : Sg} (hWr : Wr w) (q st k n bo re : Int32) {c : Nat} {g : Gs} (hR : Rel sg c g) (hI : Inv g) : M l mtX1_lightFault w [vR (some (1, 0, c)), vI q, vI st, vI k, vI n, vI bo, vI re] sg (fI (K_light g q st k n bo re) sg) := by
  refine M_of [some (vR (some (1, 0, c))), some (vI q), some (vI st), some (vI k), some (vI n), some (vI bo), some (vI re)] rfl (Nat.le_of_ble_eq_true rfl) (by decide +kernel) ?_
  intro p_ e_ s_ m_ args_ below_ meth_ c_ hC hO
  refine V_iload_n hC kX1_lightFault_0 rfl ?_
  refine V_cS_fI hC (cl_isPlace hWr _) mkX5_isPlace lmX1_110 kX1_lightFault_1 rfl rfl (Nat.le_of_ble_eq_true rfl) ⟨(Nat.le_of_ble_eq_true rfl), (Nat.le_of_ble_eq_true rfl)⟩ ⟨rfl, rfl⟩ ⟨(Nat.le_of_ble_eq_true rfl), (Nat.le_of_ble_eq_true rfl)⟩ ?_
  refine V_if_ne hC 9 kX1_lightFault_4 (by decide) (fun h4 => ?_) (fun h4 => ?_)
  · refine V_iload_n hC kX1_lightFault_9 rfl ?_
    refine V_cS_fI hC (cl_isStrength hWr _) mkX5_isStrength lmX1_114 kX1_lightFault_10 rfl rfl (Nat.le_of_ble_eq_true rfl) ⟨(Nat.le_of_ble_eq_true rfl), (Nat.le_of_ble_eq_true rfl)⟩ ⟨rfl, rfl⟩ ⟨(Nat.le_of_ble_eq_true rfl), (Nat.le_of_ble_eq_true rfl)⟩ ?_
    refine V_if_eq hC 38 kX1_lightFault_13 (by decide) (fun h13 => ?_) (fun h13 => ?_)
    · refine V_iconst hC (2) kX1_lightFault_38 (by decide) ?_
      refine V_ireti hC rfl kX1_lightFault_39 ?_
      have hno : ¬ cLamp st k n bo re := fun z => by
        first
        | exact b01e.mp h13 z.1.1
        | exact absurd z.1.2.1.1 (Int32.not_le.mpr h17)
        | exact absurd z.1.2.1.2 (Int32.not_le.mpr h22)
        | exact absurd z.1.2.2.1 (Int32.not_le.mpr h28)
        | exact h35 z.1.2.2.2
        | exact absurd z.2.1.1 (Int32.not_le.mpr h43)
        | exact absurd z.2.1.2 (Int32.not_le.mpr h50)
        | exact absurd z.2.2.1 (Int32.not_le.mpr h55)
        | exact h62 z.2.2.2
      exact ⟨cI (by rw [K_light, if_pos (b01n.mp h4), if_neg hno]), by with_reducible rfl⟩
    · refine V_iload_n hC kX1_lightFault_16 rfl ?_
      refine V_if_lt hC 38 kX1_lightFault_17 (by decide) (fun h17 => ?_) (fun h17 => ?_)
      · refine V_iconst hC (2) kX1_lightFault_38 (by decide) ?_
        refine V_ireti hC rfl kX1_lightFault_39 ?_
        have hno : ¬ cLamp st k n bo re := fun z => by
          first
          | exact b01e.mp h13 z.1.1
          | exact absurd z.1.2.1.1 (Int32.not_le.mpr h17)
          | exact absurd z.1.2.1.2 (Int32.not_le.mpr h22)
          | exact absurd z.1.2.2.1 (Int32.not_le.mpr h28)
          | exact h35 z.1.2.2.2
          | exact absurd z.2.1.1 (Int32.not_le.mpr h43)
          | exact absurd z.2.1.2 (Int32.not_le.mpr h50)
          | exact absurd z.2.2.1 (Int32.not_le.mpr h55)
          | exact h62 z.2.2.2
        exact ⟨cI (by rw [K_light, if_pos (b01n.mp h4), if_neg hno]), by with_reducible rfl⟩
      · refine V_iload_n hC kX1_lightFault_20 rfl ?_
        refine V_iconst hC (2) kX1_lightFault_21 (by decide) ?_
        refine V_icmp_gt hC 38 kX1_lightFault_22 (by decide) (fun h22 => ?_) (fun h22 => ?_)
        · refine V_iconst hC (2) kX1_lightFault_38 (by decide) ?_
          refine V_ireti hC rfl kX1_lightFault_39 ?_
          have hno : ¬ cLamp st k n bo re := fun z => by
            first
            | exact b01e.mp h13 z.1.1
            | exact absurd z.1.2.1.1 (Int32.not_le.mpr h17)
            | exact absurd z.1.2.1.2 (Int32.not_le.mpr h22)
            | exact absurd z.1.2.2.1 (Int32.not_le.mpr h28)
            | exact h35 z.1.2.2.2
            | exact absurd z.2.1.1 (Int32.not_le.mpr h43)
            | exact absurd z.2.1.2 (Int32.not_le.mpr h50)
            | exact absurd z.2.2.1 (Int32.not_le.mpr h55)
            | exact h62 z.2.2.2
          exact ⟨cI (by rw [K_light, if_pos (b01n.mp h4), if_neg hno]), by with_reducible rfl⟩
        · refine V_iload hC kX1_lightFault_25 rfl ?_
          refine V_iconst hC (1) kX1_lightFault_27 (by decide) ?_
          refine V_icmp_lt hC 38 kX1_lightFault_28 (by decide) (fun h28 => ?_) (fun h28 => ?_)
          · refine V_iconst hC (2) kX1_lightFault_38 (by decide) ?_
            refine V_ireti hC rfl kX1_lightFault_39 ?_
            have hno : ¬ cLamp st k n bo re := fun z => by
              first
              | exact b01e.mp h13 z.1.1
              | exact absurd z.1.2.1.1 (Int32.not_le.mpr h17)
              | exact absurd z.1.2.1.2 (Int32.not_le.mpr h22)
              | exact absurd z.1.2.2.1 (Int32.not_le.mpr h28)
              | exact h35 z.1.2.2.2
              | exact absurd z.2.1.1 (Int32.not_le.mpr h43)
              | exact absurd z.2.1.2 (Int32.not_le.mpr h50)
              | exact absurd z.2.2.1 (Int32.not_le.mpr h55)
              | exact h62 z.2.2.2
            exact ⟨cI (by rw [K_light, if_pos (b01n.mp h4), if_neg hno]), by with_reducible rfl⟩
          · refine V_iload hC kX1_lightFault_31 rfl ?_
            refine V_bipush hC (20) kX1_lightFault_33 (by decide) ?_
            refine V_icmp_le hC 40 kX1_lightFault_35 (by decide) (fun h35 => ?_) (fun h35 => ?_)
            · refine V_iload hC kX1_lightFault_40 rfl ?_
              refine V_iconst hC (1) kX1_lightFault_42 (by decide) ?_
              refine V_icmp_lt hC 65 kX1_lightFault_43 (by decide) (fun h43 => ?_) (fun h43 => ?_)
              · refine V_iconst hC (2) kX1_lightFault_65 (by decide) ?_
                refine V_ireti hC rfl kX1_lightFault_66 ?_
                have hno : ¬ cLamp st k n bo re := fun z => by
                  first
                  | exact b01e.mp h13 z.1.1
                  | exact absurd z.1.2.1.1 (Int32.not_le.mpr h17)
                  | exact absurd z.1.2.1.2 (Int32.not_le.mpr h22)
                  | exact absurd z.1.2.2.1 (Int32.not_le.mpr h28)
                  | exact h35 z.1.2.2.2
                  | exact absurd z.2.1.1 (Int32.not_le.mpr h43)
                  | exact absurd z.2.1.2 (Int32.not_le.mpr h50)
                  | exact absurd z.2.2.1 (Int32.not_le.mpr h55)
                  | exact h62 z.2.2.2
                exact ⟨cI (by rw [K_light, if_pos (b01n.mp h4), if_neg hno]), by with_reducible rfl⟩
              · refine V_iload hC kX1_lightFault_46 rfl ?_
                refine V_bipush hC (6) kX1_lightFault_48 (by decide) ?_
                refine V_icmp_gt hC 65 kX1_lightFault_50 (by decide) (fun h50 => ?_) (fun h50 => ?_)
                · refine V_iconst hC (2) kX1_lightFault_65 (by decide) ?_
                  refine V_ireti hC rfl kX1_lightFault_66 ?_
                  have hno : ¬ cLamp st k n bo re := fun z => by
                    first
                    | exact b01e.mp h13 z.1.1
                    | exact absurd z.1.2.1.1 (Int32.not_le.mpr h17)
                    | exact absurd z.1.2.1.2 (Int32.not_le.mpr h22)
                    | exact absurd z.1.2.2.1 (Int32.not_le.mpr h28)
                    | exact h35 z.1.2.2.2
                    | exact absurd z.2.1.1 (Int32.not_le.mpr h43)
                    | exact absurd z.2.1.2 (Int32.not_le.mpr h50)
                    | exact absurd z.2.2.1 (Int32.not_le.mpr h55)
                    | exact h62 z.2.2.2
                  exact ⟨cI (by rw [K_light, if_pos (b01n.mp h4), if_neg hno]), by with_reducible rfl⟩
                · refine V_iload hC kX1_lightFault_53 rfl ?_
                  refine V_if_lt hC 65 kX1_lightFault_55 (by decide) (fun h55 => ?_) (fun h55 => ?_)
                  · refine V_iconst hC (2) kX1_lightFault_65 (by decide) ?_
                    refine V_ireti hC rfl kX1_lightFault_66 ?_
                    have hno : ¬ cLamp st k n bo re := fun z => by
                      first
                      | exact b01e.mp h13 z.1.1
                      | exact absurd z.1.2.1.1 (Int32.not_le.mpr h17)
                      | exact absurd z.1.2.1.2 (Int32.not_le.mpr h22)
                      | exact absurd z.1.2.2.1 (Int32.not_le.mpr h28)
                      | exact h35 z.1.2.2.2
                      | exact absurd z.2.1.1 (Int32.not_le.mpr h43)
                      | exact absurd z.2.1.2 (Int32.not_le.mpr h50)
                      | exact absurd z.2.2.1 (Int32.not_le.mpr h55)
                      | exact h62 z.2.2.2
                    exact ⟨cI (by rw [K_light, if_pos (b01n.mp h4), if_neg hno]), by with_reducible rfl⟩
                  · refine V_iload hC kX1_lightFault_58 rfl ?_
                    refine V_iload hC kX1_lightFault_60 rfl ?_
                    refine V_icmp_le hC 67 kX1_lightFault_62 (by decide) (fun h62 => ?_) (fun h62 => ?_)
                    · refine V_aload_n hC kX1_lightFault_67 rfl ?_
                      refine V_getI hC 1 3 lfX1_37 kX1_lightFault_68 (Nat.le_of_ble_eq_true rfl) (Nat.le_of_ble_eq_true rfl) rfl ?_
                      refine V_bipush hC (6) kX1_lightFault_71 (by decide) ?_
                      refine V_icmp_ge hC 80 kX1_lightFault_73 (by decide) (fun h73 => ?_) (fun h73 => ?_)
                      · refine V_iconst hC (3) kX1_lightFault_80 (by decide) ?_
                        refine V_ireti hC rfl kX1_lightFault_81 ?_
                        have hL : cLamp st k n bo re := ⟨⟨b01n.mp h13, ⟨Int32.not_lt.mp h17, Int32.not_lt.mp h22⟩, Int32.not_lt.mp h28, h35⟩, ⟨Int32.not_lt.mp h43, Int32.not_lt.mp h50⟩, Int32.not_lt.mp h55, h62⟩
                        refine ⟨cI ?_, by with_reducible rfl⟩
                        rw [K_light, if_pos (b01n.mp h4), if_pos hL]
                        rw [hR.c3] at h73
                        have e6 := nlt (m := 6) (by decide) hI.hc4
                        first
                        | exact (if_pos (Classical.not_not.mp (fun z => absurd (e6.mp z) (Int32.not_lt.mpr h73)))).symm
                        | exact (if_neg (e6.mpr (Int32.not_le.mp h73))).symm
                      · refine V_iconst hC (0) kX1_lightFault_76 (by decide) ?_
                        refine V_goto hC 81 kX1_lightFault_77 (by decide) ?_
                        refine V_ireti hC rfl kX1_lightFault_81 ?_
                        have hL : cLamp st k n bo re := ⟨⟨b01n.mp h13, ⟨Int32.not_lt.mp h17, Int32.not_lt.mp h22⟩, Int32.not_lt.mp h28, h35⟩, ⟨Int32.not_lt.mp h43, Int32.not_lt.mp h50⟩, Int32.not_lt.mp h55, h62⟩
                        refine ⟨cI ?_, by with_reducible rfl⟩
                        rw [K_light, if_pos (b01n.mp h4), if_pos hL]
                        rw [hR.c3] at h73
                        have e6 := nlt (m := 6) (by decide) hI.hc4
                        first
                        | exact (if_pos (Classical.not_not.mp (fun z => absurd (e6.mp z) (Int32.not_lt.mpr h73)))).symm
                        | exact (if_neg (e6.mpr (Int32.not_le.mp h73))).symm
                    · refine V_iconst hC (2) kX1_lightFault_65 (by decide) ?_
                      refine V_ireti hC rfl kX1_lightFault_66 ?_
                      have hno : ¬ cLamp st k n bo re := fun z => by
                        first
                        | exact b01e.mp h13 z.1.1
                        | exact absurd z.1.2.1.1 (Int32.not_le.mpr h17)
                        | exact absurd z.1.2.1.2 (Int32.not_le.mpr h22)
                        | exact absurd z.1.2.2.1 (Int32.not_le.mpr h28)
                        | exact h35 z.1.2.2.2
                        | exact absurd z.2.1.1 (Int32.not_le.mpr h43)
                        | exact absurd z.2.1.2 (Int32.not_le.mpr h50)
                        | exact absurd z.2.2.1 (Int32.not_le.mpr h55)
                        | exact h62 z.2.2.2
                      exact ⟨cI (by rw [K_light, if_pos (b01n.mp h4), if_neg hno]), by with_reducible rfl⟩
            · refine V_iconst hC (2) kX1_lightFault_38 (by decide) ?_
              refine V_ireti hC rfl kX1_lightFault_39 ?_
              have hno : ¬ cLamp st k n bo re := fun z => by
                first
                | exact b01e.mp h13 z.1.1
                | exact absurd z.1.2.1.1 (Int32.not_le.mpr h17)
                | exact absurd z.1.2.1.2 (Int32.not_le.mpr h22)
                | exact absurd z.1.2.2.1 (Int32.not_le.mpr h28)
                | exact h35 z.1.2.2.2
                | exact absurd z.2.1.1 (Int32.not_le.mpr h43)
                | exact absurd z.2.1.2 (Int32.not_le.mpr h50)
                | exact absurd z.2.2.1 (Int32.not_le.mpr h55)
                | exact h62 z.2.2.2
              exact ⟨cI (by rw [K_light, if_pos (b01n.mp h4), if_neg hno]), by with_reducible rfl⟩
  · refine V_iconst hC (1) kX1_lightFault_7 (by decide) ?_
    refine V_ireti hC rfl kX1_lightFault_8 ?_
    exact ⟨cI (by rw [K_light, if_neg (b01e.mp h4)]), by with_reducible rfl⟩
def mtX1_boatFault : Mt := (yX1_boatFault, cX1_boatFault, 3, (some .int), 1, 20, 0, 0)
theorem kX1_boatFault_0 : Dk mtX1_boatFault 0 (.iload_n 1) 1 1 := ⟨by decide +kernel, rfl⟩
theorem kX1_boatFault_1 : Dk mtX1_boatFault 1 (.invokestatic 110) 3 4 := ⟨by decide +kernel, rfl⟩
theorem kX1_boatFault_4 : Dk mtX1_boatFault 4 (.ifCond .ne 5) 3 7 := ⟨by decide +kernel, rfl⟩
theorem kX1_boatFault_7 : Dk mtX1_boatFault 7 (.iconst 1) 1 8 := ⟨by decide +kernel, rfl⟩
theorem kX1_boatFault_8 : Dk mtX1_boatFault 8 (.ireturn) 1 9 := ⟨by decide +kernel, rfl⟩
theorem kX1_boatFault_9 : Dk mtX1_boatFault 9 (.iload_n 2) 1 10 := ⟨by decide +kernel, rfl⟩
theorem kX1_boatFault_10 : Dk mtX1_boatFault 10 (.invokestatic 117) 3 13 := ⟨by decide +kernel, rfl⟩
theorem kX1_boatFault_13 : Dk mtX1_boatFault 13 (.ifCond .ne 5) 3 16 := ⟨by decide +kernel, rfl⟩
theorem kX1_boatFault_16 : Dk mtX1_boatFault 16 (.iconst 2) 1 17 := ⟨by decide +kernel, rfl⟩
theorem kX1_boatFault_17 : Dk mtX1_boatFault 17 (.ireturn) 1 18 := ⟨by decide +kernel, rfl⟩
theorem kX1_boatFault_18 : Dk mtX1_boatFault 18 (.aload_n 0) 1 19 := ⟨by decide +kernel, rfl⟩
theorem kX1_boatFault_19 : Dk mtX1_boatFault 19 (.getfield 41) 3 22 := ⟨by decide +kernel, rfl⟩
theorem kX1_boatFault_22 : Dk mtX1_boatFault 22 (.bipush 8) 2 24 := ⟨by decide +kernel, rfl⟩
theorem kX1_boatFault_24 : Dk mtX1_boatFault 24 (.if_icmp .ge 7) 3 27 := ⟨by decide +kernel, rfl⟩
theorem kX1_boatFault_27 : Dk mtX1_boatFault 27 (.iconst 0) 1 28 := ⟨by decide +kernel, rfl⟩
theorem kX1_boatFault_28 : Dk mtX1_boatFault 28 (.goto 4) 3 31 := ⟨by decide +kernel, rfl⟩
theorem kX1_boatFault_31 : Dk mtX1_boatFault 31 (.iconst 3) 1 32 := ⟨by decide +kernel, rfl⟩
theorem kX1_boatFault_32 : Dk mtX1_boatFault 32 (.ireturn) 1 33 := ⟨by decide +kernel, rfl⟩
theorem lmX1_117 : LkM RX1 117 mtX5_isSpeed := Or.inr (by decide +kernel)
theorem mkX5_isSpeed : MkS mtX5_isSpeed 1 := ⟨List.mem_of_getElem? (i := 469) (by decide +kernel), by decide +kernel, by decide +kernel, ⟨by decide +kernel, by decide +kernel, by decide +kernel⟩⟩
set_option maxHeartbeats 4000000 in
set_option maxRecDepth 100000 in
theorem cl_boatFault {l : Launch} {w : Wd} {sg : Sg} (hWr : Wr w) (q v : Int32) {c : Nat} {g : Gs} (hR : Rel sg c g) (hI : Inv g) : M l mtX1_boatFault w [vR (some (1, 0, c)), vI q, vI v] sg (fI (K_boat g q v) sg) := by
  refine M_of [some (vR (some (1, 0, c))), some (vI q), some (vI v)] rfl (Nat.le_of_ble_eq_true rfl) (by decide +kernel) ?_
  intro p_ e_ s_ m_ args_ below_ meth_ c_ hC hO
  refine V_iload_n hC kX1_boatFault_0 rfl ?_
  refine V_cS_fI hC (cl_isPlace hWr _) mkX5_isPlace lmX1_110 kX1_boatFault_1 rfl rfl (Nat.le_of_ble_eq_true rfl) ⟨(Nat.le_of_ble_eq_true rfl), (Nat.le_of_ble_eq_true rfl)⟩ ⟨rfl, rfl⟩ ⟨(Nat.le_of_ble_eq_true rfl), (Nat.le_of_ble_eq_true rfl)⟩ ?_
  refine V_if_ne hC 9 kX1_boatFault_4 (by decide) (fun h4 => ?_) (fun h4 => ?_)
  · refine V_iload_n hC kX1_boatFault_9 rfl ?_
    refine V_cS_fI hC (cl_isSpeed hWr _) mkX5_isSpeed lmX1_117 kX1_boatFault_10 rfl rfl (Nat.le_of_ble_eq_true rfl) ⟨(Nat.le_of_ble_eq_true rfl), (Nat.le_of_ble_eq_true rfl)⟩ ⟨rfl, rfl⟩ ⟨(Nat.le_of_ble_eq_true rfl), (Nat.le_of_ble_eq_true rfl)⟩ ?_
    refine V_if_ne hC 18 kX1_boatFault_13 (by decide) (fun h13 => ?_) (fun h13 => ?_)
    · refine V_aload_n hC kX1_boatFault_18 rfl ?_
      refine V_getI hC 1 4 lfX1_41 kX1_boatFault_19 (Nat.le_of_ble_eq_true rfl) (Nat.le_of_ble_eq_true rfl) rfl ?_
      refine V_bipush hC (8) kX1_boatFault_22 (by decide) ?_
      refine V_icmp_ge hC 31 kX1_boatFault_24 (by decide) (fun h24 => ?_) (fun h24 => ?_)
      · refine V_iconst hC (3) kX1_boatFault_31 (by decide) ?_
        refine V_ireti hC rfl kX1_boatFault_32 ?_
        refine ⟨cI ?_, by with_reducible rfl⟩
        rw [K_boat, if_pos (b01n.mp h4), if_pos (b01n.mp h13)]
        rw [hR.c4] at h24
        have e6 := nlt (m := 8) (by decide) hI.hc5
        first
        | exact (if_pos (Classical.not_not.mp (fun z => absurd (e6.mp z) (Int32.not_lt.mpr h24)))).symm
        | exact (if_neg (e6.mpr (Int32.not_le.mp h24))).symm
      · refine V_iconst hC (0) kX1_boatFault_27 (by decide) ?_
        refine V_goto hC 32 kX1_boatFault_28 (by decide) ?_
        refine V_ireti hC rfl kX1_boatFault_32 ?_
        refine ⟨cI ?_, by with_reducible rfl⟩
        rw [K_boat, if_pos (b01n.mp h4), if_pos (b01n.mp h13)]
        rw [hR.c4] at h24
        have e6 := nlt (m := 8) (by decide) hI.hc5
        first
        | exact (if_pos (Classical.not_not.mp (fun z => absurd (e6.mp z) (Int32.not_lt.mpr h24)))).symm
        | exact (if_neg (e6.mpr (Int32.not_le.mp h24))).symm
    · refine V_iconst hC (2) kX1_boatFault_16 (by decide) ?_
      refine V_ireti hC rfl kX1_boatFault_17 ?_
      exact ⟨cI (by rw [K_boat, if_pos (b01n.mp h4), if_neg (b01e.mp h13)]), by with_reducible rfl⟩
  · refine V_iconst hC (1) kX1_boatFault_7 (by decide) ?_
    refine V_ireti hC rfl kX1_boatFault_8 ?_
    exact ⟨cI (by rw [K_boat, if_neg (b01e.mp h4)]), by with_reducible rfl⟩
def mtX1_steerFault : Mt := (yX1_steerFault, cX1_steerFault, 3, (some .int), 1, 21, 0, 0)
theorem kX1_steerFault_0 : Dk mtX1_steerFault 0 (.aload_n 0) 1 1 := ⟨by decide +kernel, rfl⟩
theorem kX1_steerFault_1 : Dk mtX1_steerFault 1 (.iload_n 1) 1 2 := ⟨by decide +kernel, rfl⟩
theorem kX1_steerFault_2 : Dk mtX1_steerFault 2 (.invokevirtual 70) 3 5 := ⟨by decide +kernel, rfl⟩
theorem kX1_steerFault_5 : Dk mtX1_steerFault 5 (.ifnonnull 5) 3 8 := ⟨by decide +kernel, rfl⟩
theorem kX1_steerFault_8 : Dk mtX1_steerFault 8 (.iconst 1) 1 9 := ⟨by decide +kernel, rfl⟩
theorem kX1_steerFault_9 : Dk mtX1_steerFault 9 (.ireturn) 1 10 := ⟨by decide +kernel, rfl⟩
theorem kX1_steerFault_10 : Dk mtX1_steerFault 10 (.iload_n 2) 1 11 := ⟨by decide +kernel, rfl⟩
theorem kX1_steerFault_11 : Dk mtX1_steerFault 11 (.invokestatic 117) 3 14 := ⟨by decide +kernel, rfl⟩
theorem kX1_steerFault_14 : Dk mtX1_steerFault 14 (.ifCond .eq 7) 3 17 := ⟨by decide +kernel, rfl⟩
theorem kX1_steerFault_17 : Dk mtX1_steerFault 17 (.iconst 0) 1 18 := ⟨by decide +kernel, rfl⟩
theorem kX1_steerFault_18 : Dk mtX1_steerFault 18 (.goto 4) 3 21 := ⟨by decide +kernel, rfl⟩
theorem kX1_steerFault_21 : Dk mtX1_steerFault 21 (.iconst 2) 1 22 := ⟨by decide +kernel, rfl⟩
theorem kX1_steerFault_22 : Dk mtX1_steerFault 22 (.ireturn) 1 23 := ⟨by decide +kernel, rfl⟩
set_option maxHeartbeats 4000000 in
set_option maxRecDepth 100000 in
theorem cl_steerFault {l : Launch} {w : Wd} {sg : Sg} (hWr : Wr w) (b v : Int32) {c : Nat} {g : Gs} (hR : Rel sg c g) (hI : Inv g) : M l mtX1_steerFault w [vR (some (1, 0, c)), vI b, vI v] sg (fI (K_steer g b v) sg) := by
  refine M_of [some (vR (some (1, 0, c))), some (vI b), some (vI v)] rfl (Nat.le_of_ble_eq_true rfl) (by decide +kernel) ?_
  intro p_ e_ s_ m_ args_ below_ meth_ c_ hC hO
  rcases rg5 hI b with ⟨hin, n, hn, rfl⟩ | ⟨hin, hb⟩
  · refine V_aload_n hC kX1_steerFault_0 rfl ?_
    refine V_iload_n hC kX1_steerFault_1 rfl ?_
    refine V_cV_fR hC (cl_boatR hWr hR hI hn) mkX1_boatAt lmX1_70 kX1_steerFault_2 (Nat.le_of_ble_eq_true rfl) rfl rfl rfl (Nat.le_of_ble_eq_true rfl) ⟨(Nat.le_of_ble_eq_true rfl), (Nat.le_of_ble_eq_true rfl)⟩ ⟨rfl, rfl⟩ ⟨(Nat.le_of_ble_eq_true rfl), (Nat.le_of_ble_eq_true rfl)⟩ ?_
    refine V_ifnonnull hC 10 kX1_steerFault_5 (by decide) (fun _ _ => ?_) (fun hq => by cases hq)
    refine V_iload_n hC kX1_steerFault_10 rfl ?_
    refine V_cS_fI hC (cl_isSpeed hWr _) mkX5_isSpeed lmX1_117 kX1_steerFault_11 rfl rfl (Nat.le_of_ble_eq_true rfl) ⟨(Nat.le_of_ble_eq_true rfl), (Nat.le_of_ble_eq_true rfl)⟩ ⟨rfl, rfl⟩ ⟨(Nat.le_of_ble_eq_true rfl), (Nat.le_of_ble_eq_true rfl)⟩ ?_
    refine V_if_eq hC 21 kX1_steerFault_14 (by decide) (fun h14 => ?_) (fun h14 => ?_)
    · refine V_iconst hC (2) kX1_steerFault_21 (by decide) ?_
      refine V_ireti hC rfl kX1_steerFault_22 ?_
      refine ⟨cI ?_, by with_reducible rfl⟩
      first
      | exact (by rw [K_steer, if_pos hin, if_neg (b01e.mp h14)])
      | exact (by rw [K_steer, if_pos hin, if_pos (b01n.mp h14)])
    · refine V_iconst hC (0) kX1_steerFault_17 (by decide) ?_
      refine V_goto hC 22 kX1_steerFault_18 (by decide) ?_
      refine V_ireti hC rfl kX1_steerFault_22 ?_
      refine ⟨cI ?_, by with_reducible rfl⟩
      first
      | exact (by rw [K_steer, if_pos hin, if_neg (b01e.mp h14)])
      | exact (by rw [K_steer, if_pos hin, if_pos (b01n.mp h14)])
  · refine V_aload_n hC kX1_steerFault_0 rfl ?_
    refine V_iload_n hC kX1_steerFault_1 rfl ?_
    refine V_cV_fR hC (cl_boatN hWr hR hb) mkX1_boatAt lmX1_70 kX1_steerFault_2 (Nat.le_of_ble_eq_true rfl) rfl rfl rfl (Nat.le_of_ble_eq_true rfl) ⟨(Nat.le_of_ble_eq_true rfl), (Nat.le_of_ble_eq_true rfl)⟩ ⟨rfl, rfl⟩ ⟨(Nat.le_of_ble_eq_true rfl), (Nat.le_of_ble_eq_true rfl)⟩ ?_
    refine V_ifnonnull hC 10 kX1_steerFault_5 (by decide) (fun _ hq => by cases hq) (fun _ => ?_)
    refine V_iconst hC (1) kX1_steerFault_8 (by decide) ?_
    refine V_ireti hC rfl kX1_steerFault_9 ?_
    exact ⟨cI (by rw [K_steer, if_neg hin]), by with_reducible rfl⟩
def mtX1_dimFault : Mt := (yX1_dimFault, cX1_dimFault, 3, (some .int), 1, 21, 0, 0)
theorem kX1_dimFault_0 : Dk mtX1_dimFault 0 (.aload_n 0) 1 1 := ⟨by decide +kernel, rfl⟩
theorem kX1_dimFault_1 : Dk mtX1_dimFault 1 (.iload_n 1) 1 2 := ⟨by decide +kernel, rfl⟩
theorem kX1_dimFault_2 : Dk mtX1_dimFault 2 (.invokevirtual 62) 3 5 := ⟨by decide +kernel, rfl⟩
theorem kX1_dimFault_5 : Dk mtX1_dimFault 5 (.ifnonnull 5) 3 8 := ⟨by decide +kernel, rfl⟩
theorem kX1_dimFault_8 : Dk mtX1_dimFault 8 (.iconst 1) 1 9 := ⟨by decide +kernel, rfl⟩
theorem kX1_dimFault_9 : Dk mtX1_dimFault 9 (.ireturn) 1 10 := ⟨by decide +kernel, rfl⟩
theorem kX1_dimFault_10 : Dk mtX1_dimFault 10 (.iload_n 2) 1 11 := ⟨by decide +kernel, rfl⟩
theorem kX1_dimFault_11 : Dk mtX1_dimFault 11 (.invokestatic 114) 3 14 := ⟨by decide +kernel, rfl⟩
theorem kX1_dimFault_14 : Dk mtX1_dimFault 14 (.ifCond .eq 7) 3 17 := ⟨by decide +kernel, rfl⟩
theorem kX1_dimFault_17 : Dk mtX1_dimFault 17 (.iconst 0) 1 18 := ⟨by decide +kernel, rfl⟩
theorem kX1_dimFault_18 : Dk mtX1_dimFault 18 (.goto 4) 3 21 := ⟨by decide +kernel, rfl⟩
theorem kX1_dimFault_21 : Dk mtX1_dimFault 21 (.iconst 2) 1 22 := ⟨by decide +kernel, rfl⟩
theorem kX1_dimFault_22 : Dk mtX1_dimFault 22 (.ireturn) 1 23 := ⟨by decide +kernel, rfl⟩
set_option maxHeartbeats 4000000 in
set_option maxRecDepth 100000 in
theorem cl_dimFault {l : Launch} {w : Wd} {sg : Sg} (hWr : Wr w) (b v : Int32) {c : Nat} {g : Gs} (hR : Rel sg c g) (hI : Inv g) : M l mtX1_dimFault w [vR (some (1, 0, c)), vI b, vI v] sg (fI (K_dim g b v) sg) := by
  refine M_of [some (vR (some (1, 0, c))), some (vI b), some (vI v)] rfl (Nat.le_of_ble_eq_true rfl) (by decide +kernel) ?_
  intro p_ e_ s_ m_ args_ below_ meth_ c_ hC hO
  rcases rg4 hI b with ⟨hin, n, hn, rfl⟩ | ⟨hin, hb⟩
  · refine V_aload_n hC kX1_dimFault_0 rfl ?_
    refine V_iload_n hC kX1_dimFault_1 rfl ?_
    refine V_cV_fR hC (cl_lightR hWr hR hI hn) mkX1_lightAt lmX1_62 kX1_dimFault_2 (Nat.le_of_ble_eq_true rfl) rfl rfl rfl (Nat.le_of_ble_eq_true rfl) ⟨(Nat.le_of_ble_eq_true rfl), (Nat.le_of_ble_eq_true rfl)⟩ ⟨rfl, rfl⟩ ⟨(Nat.le_of_ble_eq_true rfl), (Nat.le_of_ble_eq_true rfl)⟩ ?_
    refine V_ifnonnull hC 10 kX1_dimFault_5 (by decide) (fun _ _ => ?_) (fun hq => by cases hq)
    refine V_iload_n hC kX1_dimFault_10 rfl ?_
    refine V_cS_fI hC (cl_isStrength hWr _) mkX5_isStrength lmX1_114 kX1_dimFault_11 rfl rfl (Nat.le_of_ble_eq_true rfl) ⟨(Nat.le_of_ble_eq_true rfl), (Nat.le_of_ble_eq_true rfl)⟩ ⟨rfl, rfl⟩ ⟨(Nat.le_of_ble_eq_true rfl), (Nat.le_of_ble_eq_true rfl)⟩ ?_
    refine V_if_eq hC 21 kX1_dimFault_14 (by decide) (fun h14 => ?_) (fun h14 => ?_)
    · refine V_iconst hC (2) kX1_dimFault_21 (by decide) ?_
      refine V_ireti hC rfl kX1_dimFault_22 ?_
      refine ⟨cI ?_, by with_reducible rfl⟩
      first
      | exact (by rw [K_dim, if_pos hin, if_neg (b01e.mp h14)])
      | exact (by rw [K_dim, if_pos hin, if_pos (b01n.mp h14)])
    · refine V_iconst hC (0) kX1_dimFault_17 (by decide) ?_
      refine V_goto hC 22 kX1_dimFault_18 (by decide) ?_
      refine V_ireti hC rfl kX1_dimFault_22 ?_
      refine ⟨cI ?_, by with_reducible rfl⟩
      first
      | exact (by rw [K_dim, if_pos hin, if_neg (b01e.mp h14)])
      | exact (by rw [K_dim, if_pos hin, if_pos (b01n.mp h14)])
  · refine V_aload_n hC kX1_dimFault_0 rfl ?_
    refine V_iload_n hC kX1_dimFault_1 rfl ?_
    refine V_cV_fR hC (cl_lightN hWr hR hb) mkX1_lightAt lmX1_62 kX1_dimFault_2 (Nat.le_of_ble_eq_true rfl) rfl rfl rfl (Nat.le_of_ble_eq_true rfl) ⟨(Nat.le_of_ble_eq_true rfl), (Nat.le_of_ble_eq_true rfl)⟩ ⟨rfl, rfl⟩ ⟨(Nat.le_of_ble_eq_true rfl), (Nat.le_of_ble_eq_true rfl)⟩ ?_
    refine V_ifnonnull hC 10 kX1_dimFault_5 (by decide) (fun _ hq => by cases hq) (fun _ => ?_)
    refine V_iconst hC (1) kX1_dimFault_8 (by decide) ?_
    refine V_ireti hC rfl kX1_dimFault_9 ?_
    exact ⟨cI (by rw [K_dim, if_neg hin]), by with_reducible rfl⟩
def mtX1_leanFault : Mt := (yX1_leanFault, cX1_leanFault, 3, (some .int), 1, 21, 0, 0)
theorem kX1_leanFault_0 : Dk mtX1_leanFault 0 (.aload_n 0) 1 1 := ⟨by decide +kernel, rfl⟩
theorem kX1_leanFault_1 : Dk mtX1_leanFault 1 (.iload_n 1) 1 2 := ⟨by decide +kernel, rfl⟩
theorem kX1_leanFault_2 : Dk mtX1_leanFault 2 (.invokevirtual 62) 3 5 := ⟨by decide +kernel, rfl⟩
theorem kX1_leanFault_5 : Dk mtX1_leanFault 5 (.ifnonnull 5) 3 8 := ⟨by decide +kernel, rfl⟩
theorem kX1_leanFault_8 : Dk mtX1_leanFault 8 (.iconst 1) 1 9 := ⟨by decide +kernel, rfl⟩
theorem kX1_leanFault_9 : Dk mtX1_leanFault 9 (.ireturn) 1 10 := ⟨by decide +kernel, rfl⟩
theorem kX1_leanFault_10 : Dk mtX1_leanFault 10 (.iload_n 2) 1 11 := ⟨by decide +kernel, rfl⟩
theorem kX1_leanFault_11 : Dk mtX1_leanFault 11 (.bipush (-30)) 2 13 := ⟨by decide +kernel, rfl⟩
theorem kX1_leanFault_13 : Dk mtX1_leanFault 13 (.if_icmp .lt 13) 3 16 := ⟨by decide +kernel, rfl⟩
theorem kX1_leanFault_16 : Dk mtX1_leanFault 16 (.iload_n 2) 1 17 := ⟨by decide +kernel, rfl⟩
theorem kX1_leanFault_17 : Dk mtX1_leanFault 17 (.bipush 30) 2 19 := ⟨by decide +kernel, rfl⟩
theorem kX1_leanFault_19 : Dk mtX1_leanFault 19 (.if_icmp .gt 7) 3 22 := ⟨by decide +kernel, rfl⟩
theorem kX1_leanFault_22 : Dk mtX1_leanFault 22 (.iconst 0) 1 23 := ⟨by decide +kernel, rfl⟩
theorem kX1_leanFault_23 : Dk mtX1_leanFault 23 (.goto 4) 3 26 := ⟨by decide +kernel, rfl⟩
theorem kX1_leanFault_26 : Dk mtX1_leanFault 26 (.iconst 2) 1 27 := ⟨by decide +kernel, rfl⟩
theorem kX1_leanFault_27 : Dk mtX1_leanFault 27 (.ireturn) 1 28 := ⟨by decide +kernel, rfl⟩
set_option maxHeartbeats 4000000 in
set_option maxRecDepth 100000 in
theorem cl_leanFault {l : Launch} {w : Wd} {sg : Sg} (hWr : Wr w) (b v : Int32) {c : Nat} {g : Gs} (hR : Rel sg c g) (hI : Inv g) : M l mtX1_leanFault w [vR (some (1, 0, c)), vI b, vI v] sg (fI (K_lean g b v) sg) := by
  refine M_of [some (vR (some (1, 0, c))), some (vI b), some (vI v)] rfl (Nat.le_of_ble_eq_true rfl) (by decide +kernel) ?_
  intro p_ e_ s_ m_ args_ below_ meth_ c_ hC hO
  rcases rg4 hI b with ⟨hin, n, hn, rfl⟩ | ⟨hin, hb⟩
  · refine V_aload_n hC kX1_leanFault_0 rfl ?_
    refine V_iload_n hC kX1_leanFault_1 rfl ?_
    refine V_cV_fR hC (cl_lightR hWr hR hI hn) mkX1_lightAt lmX1_62 kX1_leanFault_2 (Nat.le_of_ble_eq_true rfl) rfl rfl rfl (Nat.le_of_ble_eq_true rfl) ⟨(Nat.le_of_ble_eq_true rfl), (Nat.le_of_ble_eq_true rfl)⟩ ⟨rfl, rfl⟩ ⟨(Nat.le_of_ble_eq_true rfl), (Nat.le_of_ble_eq_true rfl)⟩ ?_
    refine V_ifnonnull hC 10 kX1_leanFault_5 (by decide) (fun _ _ => ?_) (fun hq => by cases hq)
    refine V_iload_n hC kX1_leanFault_10 rfl ?_
    refine V_bipush hC (-30) kX1_leanFault_11 (by decide) ?_
    refine V_icmp_lt hC 26 kX1_leanFault_13 (by decide) (fun h13 => ?_) (fun h13 => ?_)
    · refine V_iconst hC (2) kX1_leanFault_26 (by decide) ?_
      refine V_ireti hC rfl kX1_leanFault_27 ?_
      refine ⟨cI ?_, by with_reducible rfl⟩
      first
      | exact (by rw [K_lean, if_pos hin, if_neg (fun z : inn v (-30) 30 => absurd z.1 (Int32.not_le.mpr h13))])
      | exact (by rw [K_lean, if_pos hin, if_neg (fun z : inn v (-30) 30 => absurd z.2 (Int32.not_le.mpr h19))])
      | exact (by rw [K_lean, if_pos hin, if_pos (show inn v (-30) 30 from ⟨Int32.not_lt.mp h13, Int32.not_lt.mp h19⟩)])
    · refine V_iload_n hC kX1_leanFault_16 rfl ?_
      refine V_bipush hC (30) kX1_leanFault_17 (by decide) ?_
      refine V_icmp_gt hC 26 kX1_leanFault_19 (by decide) (fun h19 => ?_) (fun h19 => ?_)
      · refine V_iconst hC (2) kX1_leanFault_26 (by decide) ?_
        refine V_ireti hC rfl kX1_leanFault_27 ?_
        refine ⟨cI ?_, by with_reducible rfl⟩
        first
        | exact (by rw [K_lean, if_pos hin, if_neg (fun z : inn v (-30) 30 => absurd z.1 (Int32.not_le.mpr h13))])
        | exact (by rw [K_lean, if_pos hin, if_neg (fun z : inn v (-30) 30 => absurd z.2 (Int32.not_le.mpr h19))])
        | exact (by rw [K_lean, if_pos hin, if_pos (show inn v (-30) 30 from ⟨Int32.not_lt.mp h13, Int32.not_lt.mp h19⟩)])
      · refine V_iconst hC (0) kX1_leanFault_22 (by decide) ?_
        refine V_goto hC 27 kX1_leanFault_23 (by decide) ?_
        refine V_ireti hC rfl kX1_leanFault_27 ?_
        refine ⟨cI ?_, by with_reducible rfl⟩
        first
        | exact (by rw [K_lean, if_pos hin, if_neg (fun z : inn v (-30) 30 => absurd z.1 (Int32.not_le.mpr h13))])
        | exact (by rw [K_lean, if_pos hin, if_neg (fun z : inn v (-30) 30 => absurd z.2 (Int32.not_le.mpr h19))])
        | exact (by rw [K_lean, if_pos hin, if_pos (show inn v (-30) 30 from ⟨Int32.not_lt.mp h13, Int32.not_lt.mp h19⟩)])
  · refine V_aload_n hC kX1_leanFault_0 rfl ?_
    refine V_iload_n hC kX1_leanFault_1 rfl ?_
    refine V_cV_fR hC (cl_lightN hWr hR hb) mkX1_lightAt lmX1_62 kX1_leanFault_2 (Nat.le_of_ble_eq_true rfl) rfl rfl rfl (Nat.le_of_ble_eq_true rfl) ⟨(Nat.le_of_ble_eq_true rfl), (Nat.le_of_ble_eq_true rfl)⟩ ⟨rfl, rfl⟩ ⟨(Nat.le_of_ble_eq_true rfl), (Nat.le_of_ble_eq_true rfl)⟩ ?_
    refine V_ifnonnull hC 10 kX1_leanFault_5 (by decide) (fun _ hq => by cases hq) (fun _ => ?_)
    refine V_iconst hC (1) kX1_leanFault_8 (by decide) ?_
    refine V_ireti hC rfl kX1_leanFault_9 ?_
    exact ⟨cI (by rw [K_lean, if_neg hin]), by with_reducible rfl⟩
def mtX1_talkFault : Mt := (yX1_talkFault, cX1_talkFault, 4, (some .int), 1, 21, 0, 0)
theorem kX1_talkFault_0 : Dk mtX1_talkFault 0 (.aload_n 0) 1 1 := ⟨by decide +kernel, rfl⟩
theorem kX1_talkFault_1 : Dk mtX1_talkFault 1 (.iload_n 1) 1 2 := ⟨by decide +kernel, rfl⟩
theorem kX1_talkFault_2 : Dk mtX1_talkFault 2 (.invokevirtual 70) 3 5 := ⟨by decide +kernel, rfl⟩
theorem kX1_talkFault_5 : Dk mtX1_talkFault 5 (.astore_n 3) 1 6 := ⟨by decide +kernel, rfl⟩
theorem kX1_talkFault_6 : Dk mtX1_talkFault 6 (.aload_n 3) 1 7 := ⟨by decide +kernel, rfl⟩
theorem kX1_talkFault_7 : Dk mtX1_talkFault 7 (.ifnonnull 5) 3 10 := ⟨by decide +kernel, rfl⟩
theorem kX1_talkFault_10 : Dk mtX1_talkFault 10 (.iconst 1) 1 11 := ⟨by decide +kernel, rfl⟩
theorem kX1_talkFault_11 : Dk mtX1_talkFault 11 (.ireturn) 1 12 := ⟨by decide +kernel, rfl⟩
theorem kX1_talkFault_12 : Dk mtX1_talkFault 12 (.iload_n 2) 1 13 := ⟨by decide +kernel, rfl⟩
theorem kX1_talkFault_13 : Dk mtX1_talkFault 13 (.iconst 1) 1 14 := ⟨by decide +kernel, rfl⟩
theorem kX1_talkFault_14 : Dk mtX1_talkFault 14 (.if_icmp .lt 9) 3 17 := ⟨by decide +kernel, rfl⟩
theorem kX1_talkFault_17 : Dk mtX1_talkFault 17 (.iload_n 2) 1 18 := ⟨by decide +kernel, rfl⟩
theorem kX1_talkFault_18 : Dk mtX1_talkFault 18 (.bipush 99) 2 20 := ⟨by decide +kernel, rfl⟩
theorem kX1_talkFault_20 : Dk mtX1_talkFault 20 (.if_icmp .le 5) 3 23 := ⟨by decide +kernel, rfl⟩
theorem kX1_talkFault_23 : Dk mtX1_talkFault 23 (.iconst 2) 1 24 := ⟨by decide +kernel, rfl⟩
theorem kX1_talkFault_24 : Dk mtX1_talkFault 24 (.ireturn) 1 25 := ⟨by decide +kernel, rfl⟩
theorem kX1_talkFault_25 : Dk mtX1_talkFault 25 (.aload_n 3) 1 26 := ⟨by decide +kernel, rfl⟩
theorem kX1_talkFault_26 : Dk mtX1_talkFault 26 (.getfield 88) 3 29 := ⟨by decide +kernel, rfl⟩
theorem kX1_talkFault_29 : Dk mtX1_talkFault 29 (.iconst (-1)) 1 30 := ⟨by decide +kernel, rfl⟩
theorem kX1_talkFault_30 : Dk mtX1_talkFault 30 (.if_icmp .ne 7) 3 33 := ⟨by decide +kernel, rfl⟩
theorem kX1_talkFault_33 : Dk mtX1_talkFault 33 (.iconst 3) 1 34 := ⟨by decide +kernel, rfl⟩
theorem kX1_talkFault_34 : Dk mtX1_talkFault 34 (.goto 4) 3 37 := ⟨by decide +kernel, rfl⟩
theorem kX1_talkFault_37 : Dk mtX1_talkFault 37 (.iconst 0) 1 38 := ⟨by decide +kernel, rfl⟩
theorem kX1_talkFault_38 : Dk mtX1_talkFault 38 (.ireturn) 1 39 := ⟨by decide +kernel, rfl⟩
set_option maxHeartbeats 4000000 in
set_option maxRecDepth 100000 in
theorem cl_talkFault {l : Launch} {w : Wd} {sg : Sg} (hWr : Wr w) (b v : Int32) {c : Nat} {g : Gs} (hR : Rel sg c g) (hI : Inv g) : M l mtX1_talkFault w [vR (some (1, 0, c)), vI b, vI v] sg (fI (K_talk g b v) sg) := by
  refine M_of [some (vR (some (1, 0, c))), some (vI b), some (vI v), none] rfl (Nat.le_of_ble_eq_true rfl) (by decide +kernel) ?_
  intro p_ e_ s_ m_ args_ below_ meth_ c_ hC hO
  rcases rg5 hI b with ⟨hin, n, hn, rfl⟩ | ⟨hin, hb⟩
  · refine V_aload_n hC kX1_talkFault_0 rfl ?_
    refine V_iload_n hC kX1_talkFault_1 rfl ?_
    refine V_cV_fR hC (cl_boatR hWr hR hI hn) mkX1_boatAt lmX1_70 kX1_talkFault_2 (Nat.le_of_ble_eq_true rfl) rfl rfl rfl (Nat.le_of_ble_eq_true rfl) ⟨(Nat.le_of_ble_eq_true rfl), (Nat.le_of_ble_eq_true rfl)⟩ ⟨rfl, rfl⟩ ⟨(Nat.le_of_ble_eq_true rfl), (Nat.le_of_ble_eq_true rfl)⟩ ?_
    refine V_astore_n hC [some _, some _, some _, some _] kX1_talkFault_5 rfl (Nat.le_of_ble_eq_true rfl) ?_
    refine V_aload_n hC kX1_talkFault_6 rfl ?_
    refine V_ifnonnull hC 12 kX1_talkFault_7 (by decide) (fun _ _ => ?_) (fun hq => by cases hq)
    refine V_iload_n hC kX1_talkFault_12 rfl ?_
    refine V_iconst hC (1) kX1_talkFault_13 (by decide) ?_
    refine V_icmp_lt hC 23 kX1_talkFault_14 (by decide) (fun h14 => ?_) (fun h14 => ?_)
    · refine V_iconst hC (2) kX1_talkFault_23 (by decide) ?_
      refine V_ireti hC rfl kX1_talkFault_24 ?_
      refine ⟨cI ?_, by with_reducible rfl⟩
      first
      | exact (by rw [K_talk, if_pos hin, if_neg (fun z : inn v 1 99 => absurd z.1 (Int32.not_le.mpr h14))])
      | exact (by rw [K_talk, if_pos hin, if_neg (fun z : inn v 1 99 => h20 z.2)])
    · refine V_iload_n hC kX1_talkFault_17 rfl ?_
      refine V_bipush hC (99) kX1_talkFault_18 (by decide) ?_
      refine V_icmp_le hC 25 kX1_talkFault_20 (by decide) (fun h20 => ?_) (fun h20 => ?_)
      · refine V_aload_n hC kX1_talkFault_25 rfl ?_
        refine V_getI hC 0 3 lfX1_88 kX1_talkFault_26 (Nat.le_of_ble_eq_true rfl) (Nat.le_of_ble_eq_true rfl) rfl ?_
        refine V_iconst hC (-1) kX1_talkFault_29 (by decide) ?_
        refine V_icmp_ne hC 37 kX1_talkFault_30 (by decide) (fun h30 => ?_) (fun h30 => ?_)
        · refine V_iconst hC (0) kX1_talkFault_37 (by decide) ?_
          refine V_ireti hC rfl kX1_talkFault_38 ?_
          have hv : inn v 1 99 := ⟨Int32.not_lt.mp h14, h20⟩
          rw [hR.b3 hI hn] at h30
          refine ⟨cI ?_, by with_reducible rfl⟩
          rw [K_talk, if_pos hin, if_pos hv]
          first
          | exact (if_pos (Classical.not_not.mp (fun z => h30 ((by_pos hI hn).mpr z)))).symm
          | exact (if_neg ((by_pos hI hn).mp h30)).symm
        · refine V_iconst hC (3) kX1_talkFault_33 (by decide) ?_
          refine V_goto hC 38 kX1_talkFault_34 (by decide) ?_
          refine V_ireti hC rfl kX1_talkFault_38 ?_
          have hv : inn v 1 99 := ⟨Int32.not_lt.mp h14, h20⟩
          rw [hR.b3 hI hn] at h30
          refine ⟨cI ?_, by with_reducible rfl⟩
          rw [K_talk, if_pos hin, if_pos hv]
          first
          | exact (if_pos (Classical.not_not.mp (fun z => h30 ((by_pos hI hn).mpr z)))).symm
          | exact (if_neg ((by_pos hI hn).mp h30)).symm
      · refine V_iconst hC (2) kX1_talkFault_23 (by decide) ?_
        refine V_ireti hC rfl kX1_talkFault_24 ?_
        refine ⟨cI ?_, by with_reducible rfl⟩
        first
        | exact (by rw [K_talk, if_pos hin, if_neg (fun z : inn v 1 99 => absurd z.1 (Int32.not_le.mpr h14))])
        | exact (by rw [K_talk, if_pos hin, if_neg (fun z : inn v 1 99 => h20 z.2)])
  · refine V_aload_n hC kX1_talkFault_0 rfl ?_
    refine V_iload_n hC kX1_talkFault_1 rfl ?_
    refine V_cV_fR hC (cl_boatN hWr hR hb) mkX1_boatAt lmX1_70 kX1_talkFault_2 (Nat.le_of_ble_eq_true rfl) rfl rfl rfl (Nat.le_of_ble_eq_true rfl) ⟨(Nat.le_of_ble_eq_true rfl), (Nat.le_of_ble_eq_true rfl)⟩ ⟨rfl, rfl⟩ ⟨(Nat.le_of_ble_eq_true rfl), (Nat.le_of_ble_eq_true rfl)⟩ ?_
    refine V_astore_n hC [some _, some _, some _, some _] kX1_talkFault_5 rfl (Nat.le_of_ble_eq_true rfl) ?_
    refine V_aload_n hC kX1_talkFault_6 rfl ?_
    refine V_ifnonnull hC 12 kX1_talkFault_7 (by decide) (fun _ hq => by cases hq) (fun _ => ?_)
    refine V_iconst hC (1) kX1_talkFault_10 (by decide) ?_
    refine V_ireti hC rfl kX1_talkFault_11 ?_
    exact ⟨cI (by rw [K_talk, if_neg hin]), by with_reducible rfl⟩
def mtX1_putSpeed : Mt := (yX1_putSpeed, cX1_putSpeed, 5, (some .int), 1, 21, 0, 0)
theorem kX1_putSpeed_0 : Dk mtX1_putSpeed 0 (.aload_n 0) 1 1 := ⟨by decide +kernel, rfl⟩
theorem kX1_putSpeed_1 : Dk mtX1_putSpeed 1 (.iload_n 1) 1 2 := ⟨by decide +kernel, rfl⟩
theorem kX1_putSpeed_2 : Dk mtX1_putSpeed 2 (.invokevirtual 70) 3 5 := ⟨by decide +kernel, rfl⟩
theorem kX1_putSpeed_5 : Dk mtX1_putSpeed 5 (.astore_n 3) 1 6 := ⟨by decide +kernel, rfl⟩
theorem kX1_putSpeed_6 : Dk mtX1_putSpeed 6 (.aload_n 3) 1 7 := ⟨by decide +kernel, rfl⟩
theorem kX1_putSpeed_7 : Dk mtX1_putSpeed 7 (.ifnonnull 5) 3 10 := ⟨by decide +kernel, rfl⟩
theorem kX1_putSpeed_12 : Dk mtX1_putSpeed 12 (.aload_n 3) 1 13 := ⟨by decide +kernel, rfl⟩
theorem kX1_putSpeed_13 : Dk mtX1_putSpeed 13 (.getfield 127) 3 16 := ⟨by decide +kernel, rfl⟩
theorem kX1_putSpeed_16 : Dk mtX1_putSpeed 16 (.istore 4) 2 18 := ⟨by decide +kernel, rfl⟩
theorem kX1_putSpeed_18 : Dk mtX1_putSpeed 18 (.aload_n 3) 1 19 := ⟨by decide +kernel, rfl⟩
theorem kX1_putSpeed_19 : Dk mtX1_putSpeed 19 (.iload_n 2) 1 20 := ⟨by decide +kernel, rfl⟩
theorem kX1_putSpeed_20 : Dk mtX1_putSpeed 20 (.putfield 127) 3 23 := ⟨by decide +kernel, rfl⟩
theorem kX1_putSpeed_23 : Dk mtX1_putSpeed 23 (.iload 4) 2 25 := ⟨by decide +kernel, rfl⟩
theorem kX1_putSpeed_25 : Dk mtX1_putSpeed 25 (.ireturn) 1 26 := ⟨by decide +kernel, rfl⟩
theorem lfX1_127 : LkF RX1 127 0 2 := Or.inr (by decide +kernel)
set_option maxHeartbeats 4000000 in
set_option maxRecDepth 100000 in
theorem cl_putSpeed {l : Launch} {w : Wd} {sg : Sg} (hWr : Wr w) (v : Int32) {c : Nat} {g : Gs} (hR : Rel sg c g) (hI : Inv g) {n : Nat} (hn : n < tn (g 5)) : M l mtX1_putSpeed w [vR (some (1, 0, c)), vI (nI n), vI v] sg (rI (fun x sg2 => x = gB g (nI n) 1 ∧ Rel sg2 c (pB g (nI n) 1 v) ∧ Fr c sg sg2)) := by
  refine M_of [some (vR (some (1, 0, c))), some (vI (nI n)), some (vI v), none, none] rfl (Nat.le_of_ble_eq_true rfl) (by decide +kernel) ?_
  intro p_ e_ s_ m_ args_ below_ meth_ c_ hC hO
  refine V_aload_n hC kX1_putSpeed_0 rfl ?_
  refine V_iload_n hC kX1_putSpeed_1 rfl ?_
  refine V_cV_fR hC (cl_boatR hWr hR hI hn) mkX1_boatAt lmX1_70 kX1_putSpeed_2 (Nat.le_of_ble_eq_true rfl) rfl rfl rfl (Nat.le_of_ble_eq_true rfl) ⟨(Nat.le_of_ble_eq_true rfl), (Nat.le_of_ble_eq_true rfl)⟩ ⟨rfl, rfl⟩ ⟨(Nat.le_of_ble_eq_true rfl), (Nat.le_of_ble_eq_true rfl)⟩ ?_
  refine V_astore_n hC [some _, some _, some _, some _, none] kX1_putSpeed_5 rfl (Nat.le_of_ble_eq_true rfl) ?_
  refine V_aload_n hC kX1_putSpeed_6 rfl ?_
  refine V_ifnonnull hC 12 kX1_putSpeed_7 (by decide) (fun _ _ => ?_) (fun hq => by cases hq)
  refine V_aload_n hC kX1_putSpeed_12 rfl ?_
  refine V_getI hC 0 2 lfX1_127 kX1_putSpeed_13 (Nat.le_of_ble_eq_true rfl) (Nat.le_of_ble_eq_true rfl) rfl ?_
  refine V_istore hC [some _, some _, some _, some _, some _] kX1_putSpeed_16 rfl (Nat.le_of_ble_eq_true rfl) ?_
  refine V_aload_n hC kX1_putSpeed_18 rfl ?_
  refine V_iload_n hC kX1_putSpeed_19 rfl ?_
  refine V_putI hC 0 2 lfX1_127 kX1_putSpeed_20 (Nat.le_of_ble_eq_true rfl) (Nat.le_of_ble_eq_true rfl) rfl rfl ⟨rfl, rfl⟩ ?_
  refine V_iload hC kX1_putSpeed_23 rfl ?_
  refine V_ireti hC rfl kX1_putSpeed_25 ?_
  refine ⟨_, by with_reducible rfl, hR.b2 hI hn, hR.pb2 hI (by have := hI.c5.1; omega) v rfl, (Fr.rf c sg).ups _ _ (by have := hI.c5.1; omega)⟩
def mtX1_putTalk : Mt := (yX1_putTalk, cX1_putTalk, 5, (some .int), 1, 21, 0, 0)
theorem kX1_putTalk_0 : Dk mtX1_putTalk 0 (.aload_n 0) 1 1 := ⟨by decide +kernel, rfl⟩
theorem kX1_putTalk_1 : Dk mtX1_putTalk 1 (.iload_n 1) 1 2 := ⟨by decide +kernel, rfl⟩
theorem kX1_putTalk_2 : Dk mtX1_putTalk 2 (.invokevirtual 70) 3 5 := ⟨by decide +kernel, rfl⟩
theorem kX1_putTalk_5 : Dk mtX1_putTalk 5 (.astore_n 3) 1 6 := ⟨by decide +kernel, rfl⟩
theorem kX1_putTalk_6 : Dk mtX1_putTalk 6 (.aload_n 3) 1 7 := ⟨by decide +kernel, rfl⟩
theorem kX1_putTalk_7 : Dk mtX1_putTalk 7 (.ifnonnull 5) 3 10 := ⟨by decide +kernel, rfl⟩
theorem kX1_putTalk_12 : Dk mtX1_putTalk 12 (.aload_n 3) 1 13 := ⟨by decide +kernel, rfl⟩
theorem kX1_putTalk_13 : Dk mtX1_putTalk 13 (.getfield 91) 3 16 := ⟨by decide +kernel, rfl⟩
theorem kX1_putTalk_16 : Dk mtX1_putTalk 16 (.istore 4) 2 18 := ⟨by decide +kernel, rfl⟩
theorem kX1_putTalk_18 : Dk mtX1_putTalk 18 (.aload_n 3) 1 19 := ⟨by decide +kernel, rfl⟩
theorem kX1_putTalk_19 : Dk mtX1_putTalk 19 (.iload_n 2) 1 20 := ⟨by decide +kernel, rfl⟩
theorem kX1_putTalk_20 : Dk mtX1_putTalk 20 (.putfield 91) 3 23 := ⟨by decide +kernel, rfl⟩
theorem kX1_putTalk_23 : Dk mtX1_putTalk 23 (.iload 4) 2 25 := ⟨by decide +kernel, rfl⟩
theorem kX1_putTalk_25 : Dk mtX1_putTalk 25 (.ireturn) 1 26 := ⟨by decide +kernel, rfl⟩
set_option maxHeartbeats 4000000 in
set_option maxRecDepth 100000 in
theorem cl_putTalk {l : Launch} {w : Wd} {sg : Sg} (hWr : Wr w) (v : Int32) {c : Nat} {g : Gs} (hR : Rel sg c g) (hI : Inv g) {n : Nat} (hn : n < tn (g 5)) : M l mtX1_putTalk w [vR (some (1, 0, c)), vI (nI n), vI v] sg (rI (fun x sg2 => x = gB g (nI n) 3 ∧ Rel sg2 c (pB g (nI n) 3 v) ∧ Fr c sg sg2)) := by
  refine M_of [some (vR (some (1, 0, c))), some (vI (nI n)), some (vI v), none, none] rfl (Nat.le_of_ble_eq_true rfl) (by decide +kernel) ?_
  intro p_ e_ s_ m_ args_ below_ meth_ c_ hC hO
  refine V_aload_n hC kX1_putTalk_0 rfl ?_
  refine V_iload_n hC kX1_putTalk_1 rfl ?_
  refine V_cV_fR hC (cl_boatR hWr hR hI hn) mkX1_boatAt lmX1_70 kX1_putTalk_2 (Nat.le_of_ble_eq_true rfl) rfl rfl rfl (Nat.le_of_ble_eq_true rfl) ⟨(Nat.le_of_ble_eq_true rfl), (Nat.le_of_ble_eq_true rfl)⟩ ⟨rfl, rfl⟩ ⟨(Nat.le_of_ble_eq_true rfl), (Nat.le_of_ble_eq_true rfl)⟩ ?_
  refine V_astore_n hC [some _, some _, some _, some _, none] kX1_putTalk_5 rfl (Nat.le_of_ble_eq_true rfl) ?_
  refine V_aload_n hC kX1_putTalk_6 rfl ?_
  refine V_ifnonnull hC 12 kX1_putTalk_7 (by decide) (fun _ _ => ?_) (fun hq => by cases hq)
  refine V_aload_n hC kX1_putTalk_12 rfl ?_
  refine V_getI hC 0 4 lfX1_91 kX1_putTalk_13 (Nat.le_of_ble_eq_true rfl) (Nat.le_of_ble_eq_true rfl) rfl ?_
  refine V_istore hC [some _, some _, some _, some _, some _] kX1_putTalk_16 rfl (Nat.le_of_ble_eq_true rfl) ?_
  refine V_aload_n hC kX1_putTalk_18 rfl ?_
  refine V_iload_n hC kX1_putTalk_19 rfl ?_
  refine V_putI hC 0 4 lfX1_91 kX1_putTalk_20 (Nat.le_of_ble_eq_true rfl) (Nat.le_of_ble_eq_true rfl) rfl rfl ⟨rfl, rfl⟩ ?_
  refine V_iload hC kX1_putTalk_23 rfl ?_
  refine V_ireti hC rfl kX1_putTalk_25 ?_
  refine ⟨_, by with_reducible rfl, hR.b4 hI hn, hR.pb4 hI (by have := hI.c5.1; omega) v rfl, (Fr.rf c sg).ups _ _ (by have := hI.c5.1; omega)⟩
def mtX1_putLeaning : Mt := (yX1_putLeaning, cX1_putLeaning, 5, (some .int), 1, 21, 0, 0)
theorem kX1_putLeaning_0 : Dk mtX1_putLeaning 0 (.aload_n 0) 1 1 := ⟨by decide +kernel, rfl⟩
theorem kX1_putLeaning_1 : Dk mtX1_putLeaning 1 (.iload_n 1) 1 2 := ⟨by decide +kernel, rfl⟩
theorem kX1_putLeaning_2 : Dk mtX1_putLeaning 2 (.invokevirtual 62) 3 5 := ⟨by decide +kernel, rfl⟩
theorem kX1_putLeaning_5 : Dk mtX1_putLeaning 5 (.astore_n 3) 1 6 := ⟨by decide +kernel, rfl⟩
theorem kX1_putLeaning_6 : Dk mtX1_putLeaning 6 (.aload_n 3) 1 7 := ⟨by decide +kernel, rfl⟩
theorem kX1_putLeaning_7 : Dk mtX1_putLeaning 7 (.ifnonnull 5) 3 10 := ⟨by decide +kernel, rfl⟩
theorem kX1_putLeaning_12 : Dk mtX1_putLeaning 12 (.aload_n 3) 1 13 := ⟨by decide +kernel, rfl⟩
theorem kX1_putLeaning_13 : Dk mtX1_putLeaning 13 (.getfield 130) 3 16 := ⟨by decide +kernel, rfl⟩
theorem kX1_putLeaning_16 : Dk mtX1_putLeaning 16 (.istore 4) 2 18 := ⟨by decide +kernel, rfl⟩
theorem kX1_putLeaning_18 : Dk mtX1_putLeaning 18 (.aload_n 3) 1 19 := ⟨by decide +kernel, rfl⟩
theorem kX1_putLeaning_19 : Dk mtX1_putLeaning 19 (.iload_n 2) 1 20 := ⟨by decide +kernel, rfl⟩
theorem kX1_putLeaning_20 : Dk mtX1_putLeaning 20 (.putfield 130) 3 23 := ⟨by decide +kernel, rfl⟩
theorem kX1_putLeaning_23 : Dk mtX1_putLeaning 23 (.iload 4) 2 25 := ⟨by decide +kernel, rfl⟩
theorem kX1_putLeaning_25 : Dk mtX1_putLeaning 25 (.ireturn) 1 26 := ⟨by decide +kernel, rfl⟩
theorem lfX1_130 : LkF RX1 130 2 6 := Or.inr (by decide +kernel)
set_option maxHeartbeats 4000000 in
set_option maxRecDepth 100000 in
theorem cl_putLeaning {l : Launch} {w : Wd} {sg : Sg} (hWr : Wr w) (v : Int32) {c : Nat} {g : Gs} (hR : Rel sg c g) (hI : Inv g) {n : Nat} (hn : n < tn (g 4)) : M l mtX1_putLeaning w [vR (some (1, 0, c)), vI (nI n), vI v] sg (rI (fun x sg2 => x = gL g (nI n) 6 ∧ Rel sg2 c (F_lean g (nI n) v) ∧ Fr c sg sg2)) := by
  refine M_of [some (vR (some (1, 0, c))), some (vI (nI n)), some (vI v), none, none] rfl (Nat.le_of_ble_eq_true rfl) (by decide +kernel) ?_
  intro p_ e_ s_ m_ args_ below_ meth_ c_ hC hO
  refine V_aload_n hC kX1_putLeaning_0 rfl ?_
  refine V_iload_n hC kX1_putLeaning_1 rfl ?_
  refine V_cV_fR hC (cl_lightR hWr hR hI hn) mkX1_lightAt lmX1_62 kX1_putLeaning_2 (Nat.le_of_ble_eq_true rfl) rfl rfl rfl (Nat.le_of_ble_eq_true rfl) ⟨(Nat.le_of_ble_eq_true rfl), (Nat.le_of_ble_eq_true rfl)⟩ ⟨rfl, rfl⟩ ⟨(Nat.le_of_ble_eq_true rfl), (Nat.le_of_ble_eq_true rfl)⟩ ?_
  refine V_astore_n hC [some _, some _, some _, some _, none] kX1_putLeaning_5 rfl (Nat.le_of_ble_eq_true rfl) ?_
  refine V_aload_n hC kX1_putLeaning_6 rfl ?_
  refine V_ifnonnull hC 12 kX1_putLeaning_7 (by decide) (fun _ _ => ?_) (fun hq => by cases hq)
  refine V_aload_n hC kX1_putLeaning_12 rfl ?_
  refine V_getI hC 2 6 lfX1_130 kX1_putLeaning_13 (Nat.le_of_ble_eq_true rfl) (Nat.le_of_ble_eq_true rfl) rfl ?_
  refine V_istore hC [some _, some _, some _, some _, some _] kX1_putLeaning_16 rfl (Nat.le_of_ble_eq_true rfl) ?_
  refine V_aload_n hC kX1_putLeaning_18 rfl ?_
  refine V_iload_n hC kX1_putLeaning_19 rfl ?_
  refine V_putI hC 2 6 lfX1_130 kX1_putLeaning_20 (Nat.le_of_ble_eq_true rfl) (Nat.le_of_ble_eq_true rfl) rfl rfl ⟨rfl, rfl⟩ ?_
  refine V_iload hC kX1_putLeaning_23 rfl ?_
  refine V_ireti hC rfl kX1_putLeaning_25 ?_
  refine ⟨_, by with_reducible rfl, hR.l6 hI hn, (by unfold F_lean; rw [tnL_6 (by have := hI.c4.1; omega)]; exact hR.pl6 hI (by have := hI.c4.1; omega) v), (Fr.rf c sg).ups _ _ (by have := hI.c4.1; omega)⟩
def mtX1_putStrength : Mt := (yX1_putStrength, cX1_putStrength, 5, (some .int), 1, 21, 0, 0)
theorem kX1_putStrength_0 : Dk mtX1_putStrength 0 (.aload_n 0) 1 1 := ⟨by decide +kernel, rfl⟩
theorem kX1_putStrength_1 : Dk mtX1_putStrength 1 (.iload_n 1) 1 2 := ⟨by decide +kernel, rfl⟩
theorem kX1_putStrength_2 : Dk mtX1_putStrength 2 (.invokevirtual 62) 3 5 := ⟨by decide +kernel, rfl⟩
theorem kX1_putStrength_5 : Dk mtX1_putStrength 5 (.astore_n 3) 1 6 := ⟨by decide +kernel, rfl⟩
theorem kX1_putStrength_6 : Dk mtX1_putStrength 6 (.aload_n 3) 1 7 := ⟨by decide +kernel, rfl⟩
theorem kX1_putStrength_7 : Dk mtX1_putStrength 7 (.ifnonnull 5) 3 10 := ⟨by decide +kernel, rfl⟩
theorem kX1_putStrength_12 : Dk mtX1_putStrength 12 (.aload_n 3) 1 13 := ⟨by decide +kernel, rfl⟩
theorem kX1_putStrength_13 : Dk mtX1_putStrength 13 (.getfield 133) 3 16 := ⟨by decide +kernel, rfl⟩
theorem kX1_putStrength_16 : Dk mtX1_putStrength 16 (.istore 4) 2 18 := ⟨by decide +kernel, rfl⟩
theorem kX1_putStrength_18 : Dk mtX1_putStrength 18 (.aload_n 3) 1 19 := ⟨by decide +kernel, rfl⟩
theorem kX1_putStrength_19 : Dk mtX1_putStrength 19 (.iload_n 2) 1 20 := ⟨by decide +kernel, rfl⟩
theorem kX1_putStrength_20 : Dk mtX1_putStrength 20 (.putfield 133) 3 23 := ⟨by decide +kernel, rfl⟩
theorem kX1_putStrength_23 : Dk mtX1_putStrength 23 (.iload 4) 2 25 := ⟨by decide +kernel, rfl⟩
theorem kX1_putStrength_25 : Dk mtX1_putStrength 25 (.ireturn) 1 26 := ⟨by decide +kernel, rfl⟩
theorem lfX1_133 : LkF RX1 133 2 1 := Or.inr (by decide +kernel)
set_option maxHeartbeats 4000000 in
set_option maxRecDepth 100000 in
theorem cl_putStrength {l : Launch} {w : Wd} {sg : Sg} (hWr : Wr w) (v : Int32) {c : Nat} {g : Gs} (hR : Rel sg c g) (hI : Inv g) {n : Nat} (hn : n < tn (g 4)) : M l mtX1_putStrength w [vR (some (1, 0, c)), vI (nI n), vI v] sg (rI (fun x sg2 => x = gL g (nI n) 1 ∧ Rel sg2 c (F_dim g (nI n) v) ∧ Fr c sg sg2)) := by
  refine M_of [some (vR (some (1, 0, c))), some (vI (nI n)), some (vI v), none, none] rfl (Nat.le_of_ble_eq_true rfl) (by decide +kernel) ?_
  intro p_ e_ s_ m_ args_ below_ meth_ c_ hC hO
  refine V_aload_n hC kX1_putStrength_0 rfl ?_
  refine V_iload_n hC kX1_putStrength_1 rfl ?_
  refine V_cV_fR hC (cl_lightR hWr hR hI hn) mkX1_lightAt lmX1_62 kX1_putStrength_2 (Nat.le_of_ble_eq_true rfl) rfl rfl rfl (Nat.le_of_ble_eq_true rfl) ⟨(Nat.le_of_ble_eq_true rfl), (Nat.le_of_ble_eq_true rfl)⟩ ⟨rfl, rfl⟩ ⟨(Nat.le_of_ble_eq_true rfl), (Nat.le_of_ble_eq_true rfl)⟩ ?_
  refine V_astore_n hC [some _, some _, some _, some _, none] kX1_putStrength_5 rfl (Nat.le_of_ble_eq_true rfl) ?_
  refine V_aload_n hC kX1_putStrength_6 rfl ?_
  refine V_ifnonnull hC 12 kX1_putStrength_7 (by decide) (fun _ _ => ?_) (fun hq => by cases hq)
  refine V_aload_n hC kX1_putStrength_12 rfl ?_
  refine V_getI hC 2 1 lfX1_133 kX1_putStrength_13 (Nat.le_of_ble_eq_true rfl) (Nat.le_of_ble_eq_true rfl) rfl ?_
  refine V_istore hC [some _, some _, some _, some _, some _] kX1_putStrength_16 rfl (Nat.le_of_ble_eq_true rfl) ?_
  refine V_aload_n hC kX1_putStrength_18 rfl ?_
  refine V_iload_n hC kX1_putStrength_19 rfl ?_
  refine V_putI hC 2 1 lfX1_133 kX1_putStrength_20 (Nat.le_of_ble_eq_true rfl) (Nat.le_of_ble_eq_true rfl) rfl rfl ⟨rfl, rfl⟩ ?_
  refine V_iload hC kX1_putStrength_23 rfl ?_
  refine V_ireti hC rfl kX1_putStrength_25 ?_
  refine ⟨_, by with_reducible rfl, hR.l1 hI hn, (by unfold F_dim; rw [tnL_1 (by have := hI.c4.1; omega)]; exact hR.pl1 hI (by have := hI.c4.1; omega) v), (Fr.rf c sg).ups _ _ (by have := hI.c4.1; omega)⟩
def mtX1_putSetting : Mt := (yX1_putSetting, cX1_putSetting, 4, (some .int), 1, 21, 0, 0)
theorem kX1_putSetting_0 : Dk mtX1_putSetting 0 (.aload_n 0) 1 1 := ⟨by decide +kernel, rfl⟩
theorem kX1_putSetting_1 : Dk mtX1_putSetting 1 (.iload_n 1) 1 2 := ⟨by decide +kernel, rfl⟩
theorem kX1_putSetting_2 : Dk mtX1_putSetting 2 (.invokevirtual 77) 3 5 := ⟨by decide +kernel, rfl⟩
theorem kX1_putSetting_5 : Dk mtX1_putSetting 5 (.istore_n 3) 1 6 := ⟨by decide +kernel, rfl⟩
theorem kX1_putSetting_6 : Dk mtX1_putSetting 6 (.iload_n 1) 1 7 := ⟨by decide +kernel, rfl⟩
theorem kX1_putSetting_7 : Dk mtX1_putSetting 7 (.ifCond .lt 19) 3 10 := ⟨by decide +kernel, rfl⟩
theorem kX1_putSetting_10 : Dk mtX1_putSetting 10 (.iload_n 1) 1 11 := ⟨by decide +kernel, rfl⟩
theorem kX1_putSetting_11 : Dk mtX1_putSetting 11 (.aload_n 0) 1 12 := ⟨by decide +kernel, rfl⟩
theorem kX1_putSetting_12 : Dk mtX1_putSetting 12 (.getfield 27) 3 15 := ⟨by decide +kernel, rfl⟩
theorem kX1_putSetting_15 : Dk mtX1_putSetting 15 (.arraylength) 1 16 := ⟨by decide +kernel, rfl⟩
theorem kX1_putSetting_16 : Dk mtX1_putSetting 16 (.if_icmp .ge 10) 3 19 := ⟨by decide +kernel, rfl⟩
theorem kX1_putSetting_19 : Dk mtX1_putSetting 19 (.aload_n 0) 1 20 := ⟨by decide +kernel, rfl⟩
theorem kX1_putSetting_20 : Dk mtX1_putSetting 20 (.getfield 27) 3 23 := ⟨by decide +kernel, rfl⟩
theorem kX1_putSetting_23 : Dk mtX1_putSetting 23 (.iload_n 1) 1 24 := ⟨by decide +kernel, rfl⟩
theorem kX1_putSetting_24 : Dk mtX1_putSetting 24 (.iload_n 2) 1 25 := ⟨by decide +kernel, rfl⟩
theorem kX1_putSetting_25 : Dk mtX1_putSetting 25 (.iastore) 1 26 := ⟨by decide +kernel, rfl⟩
theorem kX1_putSetting_26 : Dk mtX1_putSetting 26 (.iload_n 3) 1 27 := ⟨by decide +kernel, rfl⟩
theorem kX1_putSetting_27 : Dk mtX1_putSetting 27 (.ireturn) 1 28 := ⟨by decide +kernel, rfl⟩
set_option maxHeartbeats 4000000 in
set_option maxRecDepth 100000 in
theorem cl_putSetting {l : Launch} {w : Wd} {sg : Sg} (hWr : Wr w) (v : Int32) {c : Nat} {g : Gs} (hR : Rel sg c g) (hI : Inv g) {j : Nat} (hj : j < 4) : M l mtX1_putSetting w [vR (some (1, 0, c)), vI (nI j), vI v] sg (rI (fun x sg2 => x = g j ∧ Rel sg2 c (upd g j v) ∧ Fr c sg sg2)) := by
  refine M_of [some (vR (some (1, 0, c))), some (vI (nI j)), some (vI v), none] rfl (Nat.le_of_ble_eq_true rfl) (by decide +kernel) ?_
  intro p_ e_ s_ m_ args_ below_ meth_ c_ hC hO
  refine V_aload_n hC kX1_putSetting_0 rfl ?_
  refine V_iload_n hC kX1_putSetting_1 rfl ?_
  refine V_cV_fI hC (cl_setR hWr hR hj rfl) mkX1_settingOf lmX1_77 kX1_putSetting_2 (Nat.le_of_ble_eq_true rfl) rfl rfl rfl (Nat.le_of_ble_eq_true rfl) ⟨(Nat.le_of_ble_eq_true rfl), (Nat.le_of_ble_eq_true rfl)⟩ ⟨rfl, rfl⟩ ⟨(Nat.le_of_ble_eq_true rfl), (Nat.le_of_ble_eq_true rfl)⟩ ?_
  refine V_istore_n hC [some _, some _, some _, some _] kX1_putSetting_5 rfl (Nat.le_of_ble_eq_true rfl) ?_
  refine V_iload_n hC kX1_putSetting_6 rfl ?_
  refine V_if_lt hC 26 kX1_putSetting_7 (by decide) (fun h7 => absurd h7 (Int32.not_lt.mpr (nI_pos' (by omega)))) (fun h7 => ?_)
  refine V_iload_n hC kX1_putSetting_10 rfl ?_
  refine V_aload_n hC kX1_putSetting_11 rfl ?_
  refine V_getR hC hWr 1 2 lfX1_27 kX1_putSetting_12 (Nat.le_of_ble_eq_true rfl) (Nat.le_of_ble_eq_true rfl) rfl ?_
  refine V_alen hC _ kX1_putSetting_15 ⟨(Nat.le_of_ble_eq_true rfl), (Nat.le_of_ble_eq_true rfl)⟩ rfl ?_
  refine V_icmp_ge hC 26 kX1_putSetting_16 (by decide) (fun h16 => absurd h16 (nI_ge hj (by decide))) (fun h16 => ?_)
  refine V_aload_n hC kX1_putSetting_19 rfl ?_
  refine V_getR hC hWr 1 2 lfX1_27 kX1_putSetting_20 (Nat.le_of_ble_eq_true rfl) (Nat.le_of_ble_eq_true rfl) rfl ?_
  refine V_iload_n hC kX1_putSetting_23 rfl ?_
  refine V_iload_n hC kX1_putSetting_24 rfl ?_
  refine V_iast hC j (nI_clamp (by omega)) kX1_putSetting_25 (vp_in_nI hj (by decide)) ?_
  refine V_iload_n hC kX1_putSetting_26 rfl ?_
  refine V_ireti hC rfl kX1_putSetting_27 ?_
  refine ⟨_, by with_reducible rfl, rfl, hR.putS hI j v hj, (Fr.rf c sg).ups _ _ (by omega)⟩
theorem sub1 {x : Int32} : x + 1 - 1 = x := by grind
def mtX1_addLight : Mt := (yX1_addLight, cX1_addLight, 8, (some .int), 1, 26, 0, 0)
theorem kX1_addLight_0 : Dk mtX1_addLight 0 (.aload_n 0) 1 1 := ⟨by decide +kernel, rfl⟩
theorem kX1_addLight_1 : Dk mtX1_addLight 1 (.dup) 1 2 := ⟨by decide +kernel, rfl⟩
theorem kX1_addLight_2 : Dk mtX1_addLight 2 (.getfield 37) 3 5 := ⟨by decide +kernel, rfl⟩
theorem kX1_addLight_5 : Dk mtX1_addLight 5 (.iconst 1) 1 6 := ⟨by decide +kernel, rfl⟩
theorem kX1_addLight_6 : Dk mtX1_addLight 6 (.iadd) 1 7 := ⟨by decide +kernel, rfl⟩
theorem kX1_addLight_7 : Dk mtX1_addLight 7 (.putfield 37) 3 10 := ⟨by decide +kernel, rfl⟩
theorem kX1_addLight_10 : Dk mtX1_addLight 10 (.aload_n 0) 1 11 := ⟨by decide +kernel, rfl⟩
theorem kX1_addLight_11 : Dk mtX1_addLight 11 (.aload_n 0) 1 12 := ⟨by decide +kernel, rfl⟩
theorem kX1_addLight_12 : Dk mtX1_addLight 12 (.getfield 37) 3 15 := ⟨by decide +kernel, rfl⟩
theorem kX1_addLight_15 : Dk mtX1_addLight 15 (.iconst 1) 1 16 := ⟨by decide +kernel, rfl⟩
theorem kX1_addLight_16 : Dk mtX1_addLight 16 (.isub) 1 17 := ⟨by decide +kernel, rfl⟩
theorem kX1_addLight_17 : Dk mtX1_addLight 17 (.invokevirtual 62) 3 20 := ⟨by decide +kernel, rfl⟩
theorem kX1_addLight_20 : Dk mtX1_addLight 20 (.astore 7) 2 22 := ⟨by decide +kernel, rfl⟩
theorem kX1_addLight_22 : Dk mtX1_addLight 22 (.aload 7) 2 24 := ⟨by decide +kernel, rfl⟩
theorem kX1_addLight_24 : Dk mtX1_addLight 24 (.ifnull 17) 3 27 := ⟨by decide +kernel, rfl⟩
theorem kX1_addLight_27 : Dk mtX1_addLight 27 (.aload 7) 2 29 := ⟨by decide +kernel, rfl⟩
theorem kX1_addLight_29 : Dk mtX1_addLight 29 (.iload_n 1) 1 30 := ⟨by decide +kernel, rfl⟩
theorem kX1_addLight_30 : Dk mtX1_addLight 30 (.iload_n 2) 1 31 := ⟨by decide +kernel, rfl⟩
theorem kX1_addLight_31 : Dk mtX1_addLight 31 (.iload_n 3) 1 32 := ⟨by decide +kernel, rfl⟩
theorem kX1_addLight_32 : Dk mtX1_addLight 32 (.iload 4) 2 34 := ⟨by decide +kernel, rfl⟩
theorem kX1_addLight_34 : Dk mtX1_addLight 34 (.iload 5) 2 36 := ⟨by decide +kernel, rfl⟩
theorem kX1_addLight_36 : Dk mtX1_addLight 36 (.iload 6) 2 38 := ⟨by decide +kernel, rfl⟩
theorem kX1_addLight_38 : Dk mtX1_addLight 38 (.invokevirtual 120) 3 41 := ⟨by decide +kernel, rfl⟩
theorem kX1_addLight_41 : Dk mtX1_addLight 41 (.aload_n 0) 1 42 := ⟨by decide +kernel, rfl⟩
theorem kX1_addLight_42 : Dk mtX1_addLight 42 (.getfield 37) 3 45 := ⟨by decide +kernel, rfl⟩
theorem kX1_addLight_45 : Dk mtX1_addLight 45 (.iconst 1) 1 46 := ⟨by decide +kernel, rfl⟩
theorem kX1_addLight_46 : Dk mtX1_addLight 46 (.isub) 1 47 := ⟨by decide +kernel, rfl⟩
theorem kX1_addLight_47 : Dk mtX1_addLight 47 (.ireturn) 1 48 := ⟨by decide +kernel, rfl⟩
theorem lmX1_120 : LkM RX1 120 mtX2_begin := Or.inl (by decide +kernel)
theorem mkX2_begin : MkV mtX2_begin 6 := ⟨List.mem_of_getElem? (i := 458) (by decide +kernel), by decide +kernel, by decide +kernel, by decide +kernel, ⟨by decide +kernel, by decide +kernel, by decide +kernel⟩⟩
set_option maxHeartbeats 4000000 in
set_option maxRecDepth 100000 in
theorem cl_addLight {l : Launch} {w : Wd} {sg : Sg} (hWr : Wr w) (q st k n bo re : Int32) {c : Nat} {g : Gs} (hR : Rel sg c g) (hI : Inv g) (hN : tn (g 4) < 6) : M l mtX1_addLight w [vR (some (1, 0, c)), vI q, vI st, vI k, vI n, vI bo, vI re] sg (rI (fun x sg2 => x = g 4 ∧ Rel sg2 c (F_addLight g q st k n bo re) ∧ Fr c sg sg2)) := by
  refine M_of [some (vR (some (1, 0, c))), some (vI q), some (vI st), some (vI k), some (vI n), some (vI bo), some (vI re), none] rfl (Nat.le_of_ble_eq_true rfl) (by decide +kernel) ?_
  intro p_ e_ s_ m_ args_ below_ meth_ c_ hC hO
  refine V_aload_n hC kX1_addLight_0 rfl ?_
  refine V_dup hC kX1_addLight_1 rfl ?_
  refine V_getI hC 1 3 lfX1_37 kX1_addLight_2 (Nat.le_of_ble_eq_true rfl) (Nat.le_of_ble_eq_true rfl) rfl ?_
  refine V_iconst hC (1) kX1_addLight_5 (by decide) ?_
  refine V_iadd hC kX1_addLight_6 ?_
  refine V_putI hC 1 3 lfX1_37 kX1_addLight_7 (Nat.le_of_ble_eq_true rfl) (Nat.le_of_ble_eq_true rfl) rfl rfl ⟨rfl, rfl⟩ ?_
  rw [hR.c3]
  refine V_nameS (fun sg1 e_sg1 => ?_)
  have hc3 : sg1 c 3 = g 4 + 1 := by rw [e_sg1, ups_at, pk_us]
  have ho1 : ∀ j, j ≠ 3 → sg1 c j = sg c j := fun j hj => by rw [e_sg1, ups_at, pk_un hj]
  have ho2 : ∀ k, k ≠ c → sg1 k = sg k := fun k hk => by rw [e_sg1, ups_ne _ _ _ hk]
  refine V_aload_n hC kX1_addLight_10 rfl ?_
  refine V_aload_n hC kX1_addLight_11 rfl ?_
  refine V_getI hC 1 3 lfX1_37 kX1_addLight_12 (Nat.le_of_ble_eq_true rfl) (Nat.le_of_ble_eq_true rfl) rfl ?_
  refine V_iconst hC (1) kX1_addLight_15 (by decide) ?_
  refine V_isub hC kX1_addLight_16 ?_
  refine V_cV_fR hC (cl_lightAt hWr (n := tn (g 4)) (by rw [hc3, sub1]; exact hI.c4.2) hN (by rw [hc3, sub1]; exact Int32.lt_iff_toInt_lt.mpr (by rw [(cnt_up (x := g 4) (n := 6) ⟨hI.hc4.1, by have := e4int hI; omega⟩ (by decide)).1]; omega))) mkX1_lightAt lmX1_62 kX1_addLight_17 (Nat.le_of_ble_eq_true rfl) rfl rfl rfl (Nat.le_of_ble_eq_true rfl) ⟨(Nat.le_of_ble_eq_true rfl), (Nat.le_of_ble_eq_true rfl)⟩ ⟨rfl, rfl⟩ ⟨(Nat.le_of_ble_eq_true rfl), (Nat.le_of_ble_eq_true rfl)⟩ ?_
  refine V_astore hC [some _, some _, some _, some _, some _, some _, some _, some _] kX1_addLight_20 rfl (Nat.le_of_ble_eq_true rfl) ?_
  refine V_aload hC kX1_addLight_22 rfl ?_
  refine V_ifnull hC 41 kX1_addLight_24 (by decide) (fun hq => by cases hq) (fun _ _ => ?_)
  refine V_aload hC kX1_addLight_27 rfl ?_
  refine V_iload_n hC kX1_addLight_29 rfl ?_
  refine V_iload_n hC kX1_addLight_30 rfl ?_
  refine V_iload_n hC kX1_addLight_31 rfl ?_
  refine V_iload hC kX1_addLight_32 rfl ?_
  refine V_iload hC kX1_addLight_34 rfl ?_
  refine V_iload hC kX1_addLight_36 rfl ?_
  refine V_cV_fV hC (cl_lbegin hWr _ _ _ _ _ _) mkX2_begin lmX1_120 kX1_addLight_38 (Nat.le_of_ble_eq_true rfl) rfl rfl rfl (Nat.le_of_ble_eq_true rfl) ⟨(Nat.le_of_ble_eq_true rfl), (Nat.le_of_ble_eq_true rfl)⟩ ⟨rfl, rfl⟩ ⟨(Nat.le_of_ble_eq_true rfl), (Nat.le_of_ble_eq_true rfl)⟩ ?_
  refine V_aload_n hC kX1_addLight_41 rfl ?_
  refine V_getI hC 1 3 lfX1_37 kX1_addLight_42 (Nat.le_of_ble_eq_true rfl) (Nat.le_of_ble_eq_true rfl) rfl ?_
  refine V_iconst hC (1) kX1_addLight_45 (by decide) ?_
  refine V_isub hC kX1_addLight_46 ?_
  refine V_ireti hC rfl kX1_addLight_47 ?_
  refine ⟨_, by with_reducible rfl, ?_, hR.addL hI hN (M := upr sg1 (c + 2 + tn (g 4)) _) ?_ ?_ ?_ ?_, ?_⟩
  · rw [upr_ne _ _ (by omega), hc3, sub1]
  · rw [upr_ne _ _ (by omega), hc3]
  · intro j hj
    rw [upr_ne _ _ (by omega), ho1 j hj]
  · rw [upr_at]
    refine ⟨?_, ?_, ?_, ?_, ?_, ?_, ?_, ?_, ?_⟩ <;> repeat (first | rw [pk_us] | rw [pk_un (by decide)])
  · intro k h1 h2
    rw [upr_ne _ _ h2, ho2 k h1]
  · rw [e_sg1]
    exact ((Fr.rf c sg).ups (k := c) 3 (g 4 + 1) (by omega)).upr _ (by omega)
def mtX1_addBoat : Mt := (yX1_addBoat, cX1_addBoat, 4, (some .int), 1, 22, 0, 0)
theorem kX1_addBoat_0 : Dk mtX1_addBoat 0 (.aload_n 0) 1 1 := ⟨by decide +kernel, rfl⟩
theorem kX1_addBoat_1 : Dk mtX1_addBoat 1 (.dup) 1 2 := ⟨by decide +kernel, rfl⟩
theorem kX1_addBoat_2 : Dk mtX1_addBoat 2 (.getfield 41) 3 5 := ⟨by decide +kernel, rfl⟩
theorem kX1_addBoat_5 : Dk mtX1_addBoat 5 (.iconst 1) 1 6 := ⟨by decide +kernel, rfl⟩
theorem kX1_addBoat_6 : Dk mtX1_addBoat 6 (.iadd) 1 7 := ⟨by decide +kernel, rfl⟩
theorem kX1_addBoat_7 : Dk mtX1_addBoat 7 (.putfield 41) 3 10 := ⟨by decide +kernel, rfl⟩
theorem kX1_addBoat_10 : Dk mtX1_addBoat 10 (.aload_n 0) 1 11 := ⟨by decide +kernel, rfl⟩
theorem kX1_addBoat_11 : Dk mtX1_addBoat 11 (.aload_n 0) 1 12 := ⟨by decide +kernel, rfl⟩
theorem kX1_addBoat_12 : Dk mtX1_addBoat 12 (.getfield 41) 3 15 := ⟨by decide +kernel, rfl⟩
theorem kX1_addBoat_15 : Dk mtX1_addBoat 15 (.iconst 1) 1 16 := ⟨by decide +kernel, rfl⟩
theorem kX1_addBoat_16 : Dk mtX1_addBoat 16 (.isub) 1 17 := ⟨by decide +kernel, rfl⟩
theorem kX1_addBoat_17 : Dk mtX1_addBoat 17 (.invokevirtual 70) 3 20 := ⟨by decide +kernel, rfl⟩
theorem kX1_addBoat_20 : Dk mtX1_addBoat 20 (.astore_n 3) 1 21 := ⟨by decide +kernel, rfl⟩
theorem kX1_addBoat_21 : Dk mtX1_addBoat 21 (.aload_n 3) 1 22 := ⟨by decide +kernel, rfl⟩
theorem kX1_addBoat_22 : Dk mtX1_addBoat 22 (.ifnull 9) 3 25 := ⟨by decide +kernel, rfl⟩
theorem kX1_addBoat_25 : Dk mtX1_addBoat 25 (.aload_n 3) 1 26 := ⟨by decide +kernel, rfl⟩
theorem kX1_addBoat_26 : Dk mtX1_addBoat 26 (.iload_n 1) 1 27 := ⟨by decide +kernel, rfl⟩
theorem kX1_addBoat_27 : Dk mtX1_addBoat 27 (.iload_n 2) 1 28 := ⟨by decide +kernel, rfl⟩
theorem kX1_addBoat_28 : Dk mtX1_addBoat 28 (.invokevirtual 124) 3 31 := ⟨by decide +kernel, rfl⟩
theorem kX1_addBoat_31 : Dk mtX1_addBoat 31 (.aload_n 0) 1 32 := ⟨by decide +kernel, rfl⟩
theorem kX1_addBoat_32 : Dk mtX1_addBoat 32 (.getfield 41) 3 35 := ⟨by decide +kernel, rfl⟩
theorem kX1_addBoat_35 : Dk mtX1_addBoat 35 (.iconst 1) 1 36 := ⟨by decide +kernel, rfl⟩
theorem kX1_addBoat_36 : Dk mtX1_addBoat 36 (.isub) 1 37 := ⟨by decide +kernel, rfl⟩
theorem kX1_addBoat_37 : Dk mtX1_addBoat 37 (.ireturn) 1 38 := ⟨by decide +kernel, rfl⟩
theorem lmX1_124 : LkM RX1 124 mtX0_begin := Or.inl (by decide +kernel)
theorem mkX0_begin : MkV mtX0_begin 2 := ⟨List.mem_of_getElem? (i := 477) (by decide +kernel), by decide +kernel, by decide +kernel, by decide +kernel, ⟨by decide +kernel, by decide +kernel, by decide +kernel⟩⟩
set_option maxHeartbeats 4000000 in
set_option maxRecDepth 100000 in
theorem cl_addBoat {l : Launch} {w : Wd} {sg : Sg} (hWr : Wr w) (q v : Int32) {c : Nat} {g : Gs} (hR : Rel sg c g) (hI : Inv g) (hN : tn (g 5) < 8) : M l mtX1_addBoat w [vR (some (1, 0, c)), vI q, vI v] sg (rI (fun x sg2 => x = g 5 ∧ Rel sg2 c (F_addBoat g q v) ∧ Fr c sg sg2)) := by
  refine M_of [some (vR (some (1, 0, c))), some (vI q), some (vI v), none] rfl (Nat.le_of_ble_eq_true rfl) (by decide +kernel) ?_
  intro p_ e_ s_ m_ args_ below_ meth_ c_ hC hO
  refine V_aload_n hC kX1_addBoat_0 rfl ?_
  refine V_dup hC kX1_addBoat_1 rfl ?_
  refine V_getI hC 1 4 lfX1_41 kX1_addBoat_2 (Nat.le_of_ble_eq_true rfl) (Nat.le_of_ble_eq_true rfl) rfl ?_
  refine V_iconst hC (1) kX1_addBoat_5 (by decide) ?_
  refine V_iadd hC kX1_addBoat_6 ?_
  refine V_putI hC 1 4 lfX1_41 kX1_addBoat_7 (Nat.le_of_ble_eq_true rfl) (Nat.le_of_ble_eq_true rfl) rfl rfl ⟨rfl, rfl⟩ ?_
  rw [hR.c4]
  refine V_nameS (fun sg1 e_sg1 => ?_)
  have hc3 : sg1 c 4 = g 5 + 1 := by rw [e_sg1, ups_at, pk_us]
  have ho1 : ∀ j, j ≠ 4 → sg1 c j = sg c j := fun j hj => by rw [e_sg1, ups_at, pk_un hj]
  have ho2 : ∀ k, k ≠ c → sg1 k = sg k := fun k hk => by rw [e_sg1, ups_ne _ _ _ hk]
  have e5 : (tn (g 5) : Int) = (g 5).toInt := by
    have e := hI.c5.2
    rw [e, nI_toInt (by omega), show tn (nI (tn (g 5))) = tn (g 5) from nI_clamp (by omega)]
  refine V_aload_n hC kX1_addBoat_10 rfl ?_
  refine V_aload_n hC kX1_addBoat_11 rfl ?_
  refine V_getI hC 1 4 lfX1_41 kX1_addBoat_12 (Nat.le_of_ble_eq_true rfl) (Nat.le_of_ble_eq_true rfl) rfl ?_
  refine V_iconst hC (1) kX1_addBoat_15 (by decide) ?_
  refine V_isub hC kX1_addBoat_16 ?_
  refine V_cV_fR hC (cl_boatAt hWr (n := tn (g 5)) (by rw [hc3, sub1]; exact hI.c5.2) hN (by rw [hc3, sub1]; exact Int32.lt_iff_toInt_lt.mpr (by rw [(cnt_up (x := g 5) (n := 8) ⟨hI.hc5.1, by omega⟩ (by decide)).1]; omega))) mkX1_boatAt lmX1_70 kX1_addBoat_17 (Nat.le_of_ble_eq_true rfl) rfl rfl rfl (Nat.le_of_ble_eq_true rfl) ⟨(Nat.le_of_ble_eq_true rfl), (Nat.le_of_ble_eq_true rfl)⟩ ⟨rfl, rfl⟩ ⟨(Nat.le_of_ble_eq_true rfl), (Nat.le_of_ble_eq_true rfl)⟩ ?_
  refine V_astore_n hC [some _, some _, some _, some _] kX1_addBoat_20 rfl (Nat.le_of_ble_eq_true rfl) ?_
  refine V_aload_n hC kX1_addBoat_21 rfl ?_
  refine V_ifnull hC 31 kX1_addBoat_22 (by decide) (fun hq => by cases hq) (fun _ _ => ?_)
  refine V_aload_n hC kX1_addBoat_25 rfl ?_
  refine V_iload_n hC kX1_addBoat_26 rfl ?_
  refine V_iload_n hC kX1_addBoat_27 rfl ?_
  refine V_cV_fV hC (cl_bbegin hWr _ _) mkX0_begin lmX1_124 kX1_addBoat_28 (Nat.le_of_ble_eq_true rfl) rfl rfl rfl (Nat.le_of_ble_eq_true rfl) ⟨(Nat.le_of_ble_eq_true rfl), (Nat.le_of_ble_eq_true rfl)⟩ ⟨rfl, rfl⟩ ⟨(Nat.le_of_ble_eq_true rfl), (Nat.le_of_ble_eq_true rfl)⟩ ?_
  refine V_aload_n hC kX1_addBoat_31 rfl ?_
  refine V_getI hC 1 4 lfX1_41 kX1_addBoat_32 (Nat.le_of_ble_eq_true rfl) (Nat.le_of_ble_eq_true rfl) rfl ?_
  refine V_iconst hC (1) kX1_addBoat_35 (by decide) ?_
  refine V_isub hC kX1_addBoat_36 ?_
  refine V_ireti hC rfl kX1_addBoat_37 ?_
  refine ⟨_, by with_reducible rfl, ?_, hR.addB hI hN (M := upr sg1 (c + 9 + tn (g 5)) _) ?_ ?_ ?_ ?_, ?_⟩
  · rw [upr_ne _ _ (by omega), hc3, sub1]
  · rw [upr_ne _ _ (by omega), hc3]
  · intro j hj
    rw [upr_ne _ _ (by omega), ho1 j hj]
  · rw [upr_at]
    refine ⟨?_, ?_, ?_, ?_, ?_, ?_, ?_, ?_, ?_, ?_, ?_⟩ <;> repeat (first | rw [pk_us] | rw [pk_un (by decide)])
    rw [ho2 _ (by omega)]
  · intro k h1 h2
    rw [upr_ne _ _ h2, ho2 k h1]
  · rw [e_sg1]
    exact ((Fr.rf c sg).ups (k := c) 4 (g 5 + 1) (by omega)).upr _ (by omega)
def mtX1_tryLight : Mt := (yX1_tryLight, cX1_tryLight, 8, (some .boolean), 2, 53, 0, 0)
theorem kX1_tryLight_0 : Dk mtX1_tryLight 0 (.aload_n 0) 1 1 := ⟨by decide +kernel, rfl⟩
theorem kX1_tryLight_1 : Dk mtX1_tryLight 1 (.iload_n 1) 1 2 := ⟨by decide +kernel, rfl⟩
theorem kX1_tryLight_2 : Dk mtX1_tryLight 2 (.iload_n 2) 1 3 := ⟨by decide +kernel, rfl⟩
theorem kX1_tryLight_3 : Dk mtX1_tryLight 3 (.iload_n 3) 1 4 := ⟨by decide +kernel, rfl⟩
theorem kX1_tryLight_4 : Dk mtX1_tryLight 4 (.iload 4) 2 6 := ⟨by decide +kernel, rfl⟩
theorem kX1_tryLight_6 : Dk mtX1_tryLight 6 (.iload 5) 2 8 := ⟨by decide +kernel, rfl⟩
theorem kX1_tryLight_8 : Dk mtX1_tryLight 8 (.iload 6) 2 10 := ⟨by decide +kernel, rfl⟩
theorem kX1_tryLight_10 : Dk mtX1_tryLight 10 (.invokevirtual 136) 3 13 := ⟨by decide +kernel, rfl⟩
theorem kX1_tryLight_13 : Dk mtX1_tryLight 13 (.ifCond .ne 7) 3 16 := ⟨by decide +kernel, rfl⟩
theorem kX1_tryLight_16 : Dk mtX1_tryLight 16 (.iconst 1) 1 17 := ⟨by decide +kernel, rfl⟩
theorem kX1_tryLight_17 : Dk mtX1_tryLight 17 (.goto 4) 3 20 := ⟨by decide +kernel, rfl⟩
theorem kX1_tryLight_20 : Dk mtX1_tryLight 20 (.iconst 0) 1 21 := ⟨by decide +kernel, rfl⟩
theorem kX1_tryLight_21 : Dk mtX1_tryLight 21 (.istore 7) 2 23 := ⟨by decide +kernel, rfl⟩
theorem kX1_tryLight_23 : Dk mtX1_tryLight 23 (.iload 7) 2 25 := ⟨by decide +kernel, rfl⟩
theorem kX1_tryLight_25 : Dk mtX1_tryLight 25 (.ifCond .eq 17) 3 28 := ⟨by decide +kernel, rfl⟩
theorem kX1_tryLight_28 : Dk mtX1_tryLight 28 (.aload_n 0) 1 29 := ⟨by decide +kernel, rfl⟩
theorem kX1_tryLight_29 : Dk mtX1_tryLight 29 (.iload_n 1) 1 30 := ⟨by decide +kernel, rfl⟩
theorem kX1_tryLight_30 : Dk mtX1_tryLight 30 (.iload_n 2) 1 31 := ⟨by decide +kernel, rfl⟩
theorem kX1_tryLight_31 : Dk mtX1_tryLight 31 (.iload_n 3) 1 32 := ⟨by decide +kernel, rfl⟩
theorem kX1_tryLight_32 : Dk mtX1_tryLight 32 (.iload 4) 2 34 := ⟨by decide +kernel, rfl⟩
theorem kX1_tryLight_34 : Dk mtX1_tryLight 34 (.iload 5) 2 36 := ⟨by decide +kernel, rfl⟩
theorem kX1_tryLight_36 : Dk mtX1_tryLight 36 (.iload 6) 2 38 := ⟨by decide +kernel, rfl⟩
theorem kX1_tryLight_38 : Dk mtX1_tryLight 38 (.invokevirtual 140) 3 41 := ⟨by decide +kernel, rfl⟩
theorem kX1_tryLight_41 : Dk mtX1_tryLight 41 (.pop) 1 42 := ⟨by decide +kernel, rfl⟩
theorem kX1_tryLight_42 : Dk mtX1_tryLight 42 (.iload 7) 2 44 := ⟨by decide +kernel, rfl⟩
theorem kX1_tryLight_44 : Dk mtX1_tryLight 44 (.ireturn) 1 45 := ⟨by decide +kernel, rfl⟩
theorem lmX1_140 : LkM RX1 140 mtX1_addLight := Or.inl (by decide +kernel)
theorem mkX1_addLight : MkV mtX1_addLight 6 := ⟨List.mem_of_getElem? (i := 454) (by decide +kernel), by decide +kernel, by decide +kernel, by decide +kernel, ⟨by decide +kernel, by decide +kernel, by decide +kernel⟩⟩
theorem lmX1_136 : LkM RX1 136 mtX1_lightFault := Or.inl (by decide +kernel)
theorem mkX1_lightFault : MkV mtX1_lightFault 6 := ⟨List.mem_of_getElem? (i := 446) (by decide +kernel), by decide +kernel, by decide +kernel, by decide +kernel, ⟨by decide +kernel, by decide +kernel, by decide +kernel⟩⟩
set_option maxHeartbeats 4000000 in
set_option maxRecDepth 100000 in
theorem cl_tryLight {l : Launch} {w : Wd} {sg : Sg} (hWr : Wr w) (q st k n bo re : Int32) {c : Nat} {g : Gs} (hR : Rel sg c g) (hI : Inv g) : M l mtX1_tryLight w [vR (some (1, 0, c)), vI q, vI st, vI k, vI n, vI bo, vI re] sg (rI (fun x sg2 => x = b01 (cLight g q st k n bo re) ∧ Rel sg2 c (if cLight g q st k n bo re then F_addLight g q st k n bo re else g) ∧ Fr c sg sg2)) := by
  refine M_of [some (vR (some (1, 0, c))), some (vI q), some (vI st), some (vI k), some (vI n), some (vI bo), some (vI re), none] rfl (Nat.le_of_ble_eq_true rfl) (by decide +kernel) ?_
  intro p_ e_ s_ m_ args_ below_ meth_ c_ hC hO
  refine V_join 21 (b01 (cLight g q st k n bo re)) ?_ (fun j21 => ?_)
  · refine V_nameI (fun ok e_ok => ?_)
    refine V_istore hC [some _, some _, some _, some _, some _, some _, some _, some _] kX1_tryLight_21 rfl (Nat.le_of_ble_eq_true rfl) ?_
    refine V_iload hC kX1_tryLight_23 rfl ?_
    refine V_if_eq hC 42 kX1_tryLight_25 (by decide) (fun h25 => ?_) (fun h25 => ?_)
    · refine V_iload hC kX1_tryLight_42 rfl ?_
      refine V_iretz hC rfl kX1_tryLight_44 ?_ ?_
      · rw [e_ok]; exact b01_z _
      · subst e_ok
        first
        | (have hno := b01e.mp h25; exact ⟨_, by with_reducible rfl, rfl, by rw [if_neg hno]; exact hR, Fr.rf c sg⟩)
        | (refine ⟨_, by with_reducible rfl, rfl, ?_, h38.2.2⟩; rw [if_pos (b01n.mp h25)]; exact h38.2.1)
    · refine V_aload_n hC kX1_tryLight_28 rfl ?_
      refine V_iload_n hC kX1_tryLight_29 rfl ?_
      refine V_iload_n hC kX1_tryLight_30 rfl ?_
      refine V_iload_n hC kX1_tryLight_31 rfl ?_
      refine V_iload hC kX1_tryLight_32 rfl ?_
      refine V_iload hC kX1_tryLight_34 rfl ?_
      refine V_iload hC kX1_tryLight_36 rfl ?_
      have hyes := b1_of e_ok h25
      have hN : tn (g 4) < 6 := by have := Int32.lt_iff_toInt_lt.mp hyes.2.2; have e := e4int hI; have z : (6 : Int32).toInt = 6 := rfl; omega
      refine V_cV_rI hC (cl_addLight hWr _ _ _ _ _ _ hR hI hN) mkX1_addLight lmX1_140 kX1_tryLight_38 (Nat.le_of_ble_eq_true rfl) rfl rfl rfl (Nat.le_of_ble_eq_true rfl) ⟨(Nat.le_of_ble_eq_true rfl), (Nat.le_of_ble_eq_true rfl)⟩ ⟨rfl, rfl⟩ ⟨(Nat.le_of_ble_eq_true rfl), (Nat.le_of_ble_eq_true rfl)⟩ (fun x38 g38 h38 => ?_)
      refine V_pop hC kX1_tryLight_41 rfl ?_
      refine V_iload hC kX1_tryLight_42 rfl ?_
      refine V_iretz hC rfl kX1_tryLight_44 ?_ ?_
      · rw [e_ok]; exact b01_z _
      · subst e_ok
        first
        | (have hno := b01e.mp h25; exact ⟨_, by with_reducible rfl, rfl, by rw [if_neg hno]; exact hR, Fr.rf c sg⟩)
        | (refine ⟨_, by with_reducible rfl, rfl, ?_, h38.2.2⟩; rw [if_pos (b01n.mp h25)]; exact h38.2.1)
  · refine V_aload_n hC kX1_tryLight_0 rfl ?_
    refine V_iload_n hC kX1_tryLight_1 rfl ?_
    refine V_iload_n hC kX1_tryLight_2 rfl ?_
    refine V_iload_n hC kX1_tryLight_3 rfl ?_
    refine V_iload hC kX1_tryLight_4 rfl ?_
    refine V_iload hC kX1_tryLight_6 rfl ?_
    refine V_iload hC kX1_tryLight_8 rfl ?_
    refine V_cV_fI hC (cl_lightFault hWr q st k n bo re hR hI) mkX1_lightFault lmX1_136 kX1_tryLight_10 (Nat.le_of_ble_eq_true rfl) rfl rfl rfl (Nat.le_of_ble_eq_true rfl) ⟨(Nat.le_of_ble_eq_true rfl), (Nat.le_of_ble_eq_true rfl)⟩ ⟨rfl, rfl⟩ ⟨(Nat.le_of_ble_eq_true rfl), (Nat.le_of_ble_eq_true rfl)⟩ ?_
    refine V_if_ne hC 20 kX1_tryLight_13 (by decide) (fun h13 => ?_) (fun h13 => ?_)
    · refine V_iconst hC (0) kX1_tryLight_20 (by decide) ?_
      exact j21 _ ((b01_f (fun z => h13 ((KL_0 hI).mpr z))).symm)
    · refine V_iconst hC (1) kX1_tryLight_16 (by decide) ?_
      refine V_goto hC 21 kX1_tryLight_17 (by decide) ?_
      exact j21 _ ((b01_t ((KL_0 hI).mp h13)).symm)
def mtX1_tryBoat : Mt := (yX1_tryBoat, cX1_tryBoat, 4, (some .boolean), 2, 45, 0, 0)
theorem kX1_tryBoat_0 : Dk mtX1_tryBoat 0 (.aload_n 0) 1 1 := ⟨by decide +kernel, rfl⟩
theorem kX1_tryBoat_1 : Dk mtX1_tryBoat 1 (.iload_n 1) 1 2 := ⟨by decide +kernel, rfl⟩
theorem kX1_tryBoat_2 : Dk mtX1_tryBoat 2 (.iload_n 2) 1 3 := ⟨by decide +kernel, rfl⟩
theorem kX1_tryBoat_3 : Dk mtX1_tryBoat 3 (.invokevirtual 143) 3 6 := ⟨by decide +kernel, rfl⟩
theorem kX1_tryBoat_6 : Dk mtX1_tryBoat 6 (.ifCond .ne 7) 3 9 := ⟨by decide +kernel, rfl⟩
theorem kX1_tryBoat_9 : Dk mtX1_tryBoat 9 (.iconst 1) 1 10 := ⟨by decide +kernel, rfl⟩
theorem kX1_tryBoat_10 : Dk mtX1_tryBoat 10 (.goto 4) 3 13 := ⟨by decide +kernel, rfl⟩
theorem kX1_tryBoat_13 : Dk mtX1_tryBoat 13 (.iconst 0) 1 14 := ⟨by decide +kernel, rfl⟩
theorem kX1_tryBoat_14 : Dk mtX1_tryBoat 14 (.istore_n 3) 1 15 := ⟨by decide +kernel, rfl⟩
theorem kX1_tryBoat_15 : Dk mtX1_tryBoat 15 (.iload_n 3) 1 16 := ⟨by decide +kernel, rfl⟩
theorem kX1_tryBoat_16 : Dk mtX1_tryBoat 16 (.ifCond .eq 10) 3 19 := ⟨by decide +kernel, rfl⟩
theorem kX1_tryBoat_19 : Dk mtX1_tryBoat 19 (.aload_n 0) 1 20 := ⟨by decide +kernel, rfl⟩
theorem kX1_tryBoat_20 : Dk mtX1_tryBoat 20 (.iload_n 1) 1 21 := ⟨by decide +kernel, rfl⟩
theorem kX1_tryBoat_21 : Dk mtX1_tryBoat 21 (.iload_n 2) 1 22 := ⟨by decide +kernel, rfl⟩
theorem kX1_tryBoat_22 : Dk mtX1_tryBoat 22 (.invokevirtual 146) 3 25 := ⟨by decide +kernel, rfl⟩
theorem kX1_tryBoat_25 : Dk mtX1_tryBoat 25 (.pop) 1 26 := ⟨by decide +kernel, rfl⟩
theorem kX1_tryBoat_26 : Dk mtX1_tryBoat 26 (.iload_n 3) 1 27 := ⟨by decide +kernel, rfl⟩
theorem kX1_tryBoat_27 : Dk mtX1_tryBoat 27 (.ireturn) 1 28 := ⟨by decide +kernel, rfl⟩
theorem lmX1_146 : LkM RX1 146 mtX1_addBoat := Or.inl (by decide +kernel)
theorem mkX1_addBoat : MkV mtX1_addBoat 2 := ⟨List.mem_of_getElem? (i := 473) (by decide +kernel), by decide +kernel, by decide +kernel, by decide +kernel, ⟨by decide +kernel, by decide +kernel, by decide +kernel⟩⟩
theorem lmX1_143 : LkM RX1 143 mtX1_boatFault := Or.inl (by decide +kernel)
theorem mkX1_boatFault : MkV mtX1_boatFault 2 := ⟨List.mem_of_getElem? (i := 466) (by decide +kernel), by decide +kernel, by decide +kernel, by decide +kernel, ⟨by decide +kernel, by decide +kernel, by decide +kernel⟩⟩
set_option maxHeartbeats 4000000 in
set_option maxRecDepth 100000 in
theorem cl_tryBoat {l : Launch} {w : Wd} {sg : Sg} (hWr : Wr w) (q v : Int32) {c : Nat} {g : Gs} (hR : Rel sg c g) (hI : Inv g) : M l mtX1_tryBoat w [vR (some (1, 0, c)), vI q, vI v] sg (rI (fun x sg2 => x = b01 (cBoat g q v) ∧ Rel sg2 c (if cBoat g q v then F_addBoat g q v else g) ∧ Fr c sg sg2)) := by
  refine M_of [some (vR (some (1, 0, c))), some (vI q), some (vI v), none] rfl (Nat.le_of_ble_eq_true rfl) (by decide +kernel) ?_
  intro p_ e_ s_ m_ args_ below_ meth_ c_ hC hO
  refine V_join 14 (b01 (cBoat g q v)) ?_ (fun j14 => ?_)
  · refine V_nameI (fun ok e_ok => ?_)
    refine V_istore_n hC [some _, some _, some _, some _] kX1_tryBoat_14 rfl (Nat.le_of_ble_eq_true rfl) ?_
    refine V_iload_n hC kX1_tryBoat_15 rfl ?_
    refine V_if_eq hC 26 kX1_tryBoat_16 (by decide) (fun h16 => ?_) (fun h16 => ?_)
    · refine V_iload_n hC kX1_tryBoat_26 rfl ?_
      refine V_iretz hC rfl kX1_tryBoat_27 ?_ ?_
      · rw [e_ok]; exact b01_z _
      · subst e_ok
        first
        | (have hno := b01e.mp h16; exact ⟨_, by with_reducible rfl, rfl, by rw [if_neg hno]; exact hR, Fr.rf c sg⟩)
        | (refine ⟨_, by with_reducible rfl, rfl, ?_, h22.2.2⟩; rw [if_pos (b01n.mp h16)]; exact h22.2.1)
    · refine V_aload_n hC kX1_tryBoat_19 rfl ?_
      refine V_iload_n hC kX1_tryBoat_20 rfl ?_
      refine V_iload_n hC kX1_tryBoat_21 rfl ?_
      have hyes := b1_of e_ok h16
      have hN : tn (g 5) < 8 := by
        have := Int32.lt_iff_toInt_lt.mp hyes.2.2
        have e := hI.c5.2
        have e1 := hI.c5.1
        have z : (8 : Int32).toInt = 8 := rfl
        rw [e, nI_toInt (by omega)] at this
        omega
      refine V_cV_rI hC (cl_addBoat hWr _ _ hR hI hN) mkX1_addBoat lmX1_146 kX1_tryBoat_22 (Nat.le_of_ble_eq_true rfl) rfl rfl rfl (Nat.le_of_ble_eq_true rfl) ⟨(Nat.le_of_ble_eq_true rfl), (Nat.le_of_ble_eq_true rfl)⟩ ⟨rfl, rfl⟩ ⟨(Nat.le_of_ble_eq_true rfl), (Nat.le_of_ble_eq_true rfl)⟩ (fun x22 g22 h22 => ?_)
      refine V_pop hC kX1_tryBoat_25 rfl ?_
      refine V_iload_n hC kX1_tryBoat_26 rfl ?_
      refine V_iretz hC rfl kX1_tryBoat_27 ?_ ?_
      · rw [e_ok]; exact b01_z _
      · subst e_ok
        first
        | (have hno := b01e.mp h16; exact ⟨_, by with_reducible rfl, rfl, by rw [if_neg hno]; exact hR, Fr.rf c sg⟩)
        | (refine ⟨_, by with_reducible rfl, rfl, ?_, h22.2.2⟩; rw [if_pos (b01n.mp h16)]; exact h22.2.1)
  · refine V_aload_n hC kX1_tryBoat_0 rfl ?_
    refine V_iload_n hC kX1_tryBoat_1 rfl ?_
    refine V_iload_n hC kX1_tryBoat_2 rfl ?_
    refine V_cV_fI hC (cl_boatFault hWr q v hR hI) mkX1_boatFault lmX1_143 kX1_tryBoat_3 (Nat.le_of_ble_eq_true rfl) rfl rfl rfl (Nat.le_of_ble_eq_true rfl) ⟨(Nat.le_of_ble_eq_true rfl), (Nat.le_of_ble_eq_true rfl)⟩ ⟨rfl, rfl⟩ ⟨(Nat.le_of_ble_eq_true rfl), (Nat.le_of_ble_eq_true rfl)⟩ ?_
    refine V_if_ne hC 13 kX1_tryBoat_6 (by decide) (fun h6 => ?_) (fun h6 => ?_)
    · refine V_iconst hC (0) kX1_tryBoat_13 (by decide) ?_
      exact j14 _ ((b01_f (fun z => h6 ((KB_0 hI).mpr z))).symm)
    · refine V_iconst hC (1) kX1_tryBoat_9 (by decide) ?_
      refine V_goto hC 14 kX1_tryBoat_10 (by decide) ?_
      exact j14 _ ((b01_t ((KB_0 hI).mp h6)).symm)
def mtX1_trySteer : Mt := (yX1_trySteer, cX1_trySteer, 4, (some .boolean), 2, 45, 0, 0)
theorem kX1_trySteer_0 : Dk mtX1_trySteer 0 (.aload_n 0) 1 1 := ⟨by decide +kernel, rfl⟩
theorem kX1_trySteer_1 : Dk mtX1_trySteer 1 (.iload_n 1) 1 2 := ⟨by decide +kernel, rfl⟩
theorem kX1_trySteer_2 : Dk mtX1_trySteer 2 (.iload_n 2) 1 3 := ⟨by decide +kernel, rfl⟩
theorem kX1_trySteer_3 : Dk mtX1_trySteer 3 (.invokevirtual 149) 3 6 := ⟨by decide +kernel, rfl⟩
theorem kX1_trySteer_6 : Dk mtX1_trySteer 6 (.ifCond .ne 7) 3 9 := ⟨by decide +kernel, rfl⟩
theorem kX1_trySteer_9 : Dk mtX1_trySteer 9 (.iconst 1) 1 10 := ⟨by decide +kernel, rfl⟩
theorem kX1_trySteer_10 : Dk mtX1_trySteer 10 (.goto 4) 3 13 := ⟨by decide +kernel, rfl⟩
theorem kX1_trySteer_13 : Dk mtX1_trySteer 13 (.iconst 0) 1 14 := ⟨by decide +kernel, rfl⟩
theorem kX1_trySteer_14 : Dk mtX1_trySteer 14 (.istore_n 3) 1 15 := ⟨by decide +kernel, rfl⟩
theorem kX1_trySteer_15 : Dk mtX1_trySteer 15 (.iload_n 3) 1 16 := ⟨by decide +kernel, rfl⟩
theorem kX1_trySteer_16 : Dk mtX1_trySteer 16 (.ifCond .eq 10) 3 19 := ⟨by decide +kernel, rfl⟩
theorem kX1_trySteer_19 : Dk mtX1_trySteer 19 (.aload_n 0) 1 20 := ⟨by decide +kernel, rfl⟩
theorem kX1_trySteer_20 : Dk mtX1_trySteer 20 (.iload_n 1) 1 21 := ⟨by decide +kernel, rfl⟩
theorem kX1_trySteer_21 : Dk mtX1_trySteer 21 (.iload_n 2) 1 22 := ⟨by decide +kernel, rfl⟩
theorem kX1_trySteer_22 : Dk mtX1_trySteer 22 (.invokevirtual 152) 3 25 := ⟨by decide +kernel, rfl⟩
theorem kX1_trySteer_25 : Dk mtX1_trySteer 25 (.pop) 1 26 := ⟨by decide +kernel, rfl⟩
theorem kX1_trySteer_26 : Dk mtX1_trySteer 26 (.iload_n 3) 1 27 := ⟨by decide +kernel, rfl⟩
theorem kX1_trySteer_27 : Dk mtX1_trySteer 27 (.ireturn) 1 28 := ⟨by decide +kernel, rfl⟩
theorem lmX1_152 : LkM RX1 152 mtX1_putSpeed := Or.inl (by decide +kernel)
theorem mkX1_putSpeed : MkV mtX1_putSpeed 2 := ⟨List.mem_of_getElem? (i := 489) (by decide +kernel), by decide +kernel, by decide +kernel, by decide +kernel, ⟨by decide +kernel, by decide +kernel, by decide +kernel⟩⟩
theorem lmX1_149 : LkM RX1 149 mtX1_steerFault := Or.inl (by decide +kernel)
theorem mkX1_steerFault : MkV mtX1_steerFault 2 := ⟨List.mem_of_getElem? (i := 485) (by decide +kernel), by decide +kernel, by decide +kernel, by decide +kernel, ⟨by decide +kernel, by decide +kernel, by decide +kernel⟩⟩
set_option maxHeartbeats 4000000 in
set_option maxRecDepth 100000 in
theorem cl_trySteer {l : Launch} {w : Wd} {sg : Sg} (hWr : Wr w) (b v : Int32) {c : Nat} {g : Gs} (hR : Rel sg c g) (hI : Inv g) : M l mtX1_trySteer w [vR (some (1, 0, c)), vI b, vI v] sg (rI (fun x sg2 => x = b01 (cSteer g b v) ∧ Rel sg2 c (if cSteer g b v then pB g b 1 v else g) ∧ Fr c sg sg2)) := by
  refine M_of [some (vR (some (1, 0, c))), some (vI b), some (vI v), none] rfl (Nat.le_of_ble_eq_true rfl) (by decide +kernel) ?_
  intro p_ e_ s_ m_ args_ below_ meth_ c_ hC hO
  refine V_join 14 (b01 (cSteer g b v)) ?_ (fun j14 => ?_)
  · refine V_nameI (fun ok e_ok => ?_)
    refine V_istore_n hC [some _, some _, some _, some _] kX1_trySteer_14 rfl (Nat.le_of_ble_eq_true rfl) ?_
    refine V_iload_n hC kX1_trySteer_15 rfl ?_
    refine V_if_eq hC 26 kX1_trySteer_16 (by decide) (fun h16 => ?_) (fun h16 => ?_)
    · refine V_iload_n hC kX1_trySteer_26 rfl ?_
      refine V_iretz hC rfl kX1_trySteer_27 ?_ ?_
      · rw [e_ok]; exact b01_z _
      · subst e_ok
        first
        | (have hno := b01e.mp h16; exact ⟨_, by with_reducible rfl, rfl, by rw [if_neg hno]; exact hR, Fr.rf c sg⟩)
        | (refine ⟨_, by with_reducible rfl, rfl, ?_, h22.2.2⟩; rw [if_pos (b01n.mp h16)]; exact h22.2.1)
    · refine V_aload_n hC kX1_trySteer_19 rfl ?_
      refine V_iload_n hC kX1_trySteer_20 rfl ?_
      refine V_iload_n hC kX1_trySteer_21 rfl ?_
      have hyes := b1_of e_ok h16
      obtain ⟨n, hn, rfl⟩ := in_B hI.hc5 hyes.1
      refine V_cV_rI hC (cl_putSpeed hWr v hR hI hn) mkX1_putSpeed lmX1_152 kX1_trySteer_22 (Nat.le_of_ble_eq_true rfl) rfl rfl rfl (Nat.le_of_ble_eq_true rfl) ⟨(Nat.le_of_ble_eq_true rfl), (Nat.le_of_ble_eq_true rfl)⟩ ⟨rfl, rfl⟩ ⟨(Nat.le_of_ble_eq_true rfl), (Nat.le_of_ble_eq_true rfl)⟩ (fun x22 g22 h22 => ?_)
      refine V_pop hC kX1_trySteer_25 rfl ?_
      refine V_iload_n hC kX1_trySteer_26 rfl ?_
      refine V_iretz hC rfl kX1_trySteer_27 ?_ ?_
      · rw [e_ok]; exact b01_z _
      · subst e_ok
        first
        | (have hno := b01e.mp h16; exact ⟨_, by with_reducible rfl, rfl, by rw [if_neg hno]; exact hR, Fr.rf c sg⟩)
        | (refine ⟨_, by with_reducible rfl, rfl, ?_, h22.2.2⟩; rw [if_pos (b01n.mp h16)]; exact h22.2.1)
  · refine V_aload_n hC kX1_trySteer_0 rfl ?_
    refine V_iload_n hC kX1_trySteer_1 rfl ?_
    refine V_iload_n hC kX1_trySteer_2 rfl ?_
    refine V_cV_fI hC (cl_steerFault hWr b v hR hI) mkX1_steerFault lmX1_149 kX1_trySteer_3 (Nat.le_of_ble_eq_true rfl) rfl rfl rfl (Nat.le_of_ble_eq_true rfl) ⟨(Nat.le_of_ble_eq_true rfl), (Nat.le_of_ble_eq_true rfl)⟩ ⟨rfl, rfl⟩ ⟨(Nat.le_of_ble_eq_true rfl), (Nat.le_of_ble_eq_true rfl)⟩ ?_
    refine V_if_ne hC 13 kX1_trySteer_6 (by decide) (fun h6 => ?_) (fun h6 => ?_)
    · refine V_iconst hC (0) kX1_trySteer_13 (by decide) ?_
      exact j14 _ ((b01_f (fun z => h6 (KS_0.mpr z))).symm)
    · refine V_iconst hC (1) kX1_trySteer_9 (by decide) ?_
      refine V_goto hC 14 kX1_trySteer_10 (by decide) ?_
      exact j14 _ ((b01_t (KS_0.mp h6)).symm)
def mtX1_tryTalk : Mt := (yX1_tryTalk, cX1_tryTalk, 4, (some .boolean), 2, 45, 0, 0)
theorem kX1_tryTalk_0 : Dk mtX1_tryTalk 0 (.aload_n 0) 1 1 := ⟨by decide +kernel, rfl⟩
theorem kX1_tryTalk_1 : Dk mtX1_tryTalk 1 (.iload_n 1) 1 2 := ⟨by decide +kernel, rfl⟩
theorem kX1_tryTalk_2 : Dk mtX1_tryTalk 2 (.iload_n 2) 1 3 := ⟨by decide +kernel, rfl⟩
theorem kX1_tryTalk_3 : Dk mtX1_tryTalk 3 (.invokevirtual 155) 3 6 := ⟨by decide +kernel, rfl⟩
theorem kX1_tryTalk_6 : Dk mtX1_tryTalk 6 (.ifCond .ne 7) 3 9 := ⟨by decide +kernel, rfl⟩
theorem kX1_tryTalk_9 : Dk mtX1_tryTalk 9 (.iconst 1) 1 10 := ⟨by decide +kernel, rfl⟩
theorem kX1_tryTalk_10 : Dk mtX1_tryTalk 10 (.goto 4) 3 13 := ⟨by decide +kernel, rfl⟩
theorem kX1_tryTalk_13 : Dk mtX1_tryTalk 13 (.iconst 0) 1 14 := ⟨by decide +kernel, rfl⟩
theorem kX1_tryTalk_14 : Dk mtX1_tryTalk 14 (.istore_n 3) 1 15 := ⟨by decide +kernel, rfl⟩
theorem kX1_tryTalk_15 : Dk mtX1_tryTalk 15 (.iload_n 3) 1 16 := ⟨by decide +kernel, rfl⟩
theorem kX1_tryTalk_16 : Dk mtX1_tryTalk 16 (.ifCond .eq 10) 3 19 := ⟨by decide +kernel, rfl⟩
theorem kX1_tryTalk_19 : Dk mtX1_tryTalk 19 (.aload_n 0) 1 20 := ⟨by decide +kernel, rfl⟩
theorem kX1_tryTalk_20 : Dk mtX1_tryTalk 20 (.iload_n 1) 1 21 := ⟨by decide +kernel, rfl⟩
theorem kX1_tryTalk_21 : Dk mtX1_tryTalk 21 (.iload_n 2) 1 22 := ⟨by decide +kernel, rfl⟩
theorem kX1_tryTalk_22 : Dk mtX1_tryTalk 22 (.invokevirtual 158) 3 25 := ⟨by decide +kernel, rfl⟩
theorem kX1_tryTalk_25 : Dk mtX1_tryTalk 25 (.pop) 1 26 := ⟨by decide +kernel, rfl⟩
theorem kX1_tryTalk_26 : Dk mtX1_tryTalk 26 (.iload_n 3) 1 27 := ⟨by decide +kernel, rfl⟩
theorem kX1_tryTalk_27 : Dk mtX1_tryTalk 27 (.ireturn) 1 28 := ⟨by decide +kernel, rfl⟩
theorem lmX1_158 : LkM RX1 158 mtX1_putTalk := Or.inl (by decide +kernel)
theorem mkX1_putTalk : MkV mtX1_putTalk 2 := ⟨List.mem_of_getElem? (i := 501) (by decide +kernel), by decide +kernel, by decide +kernel, by decide +kernel, ⟨by decide +kernel, by decide +kernel, by decide +kernel⟩⟩
theorem lmX1_155 : LkM RX1 155 mtX1_talkFault := Or.inl (by decide +kernel)
theorem mkX1_talkFault : MkV mtX1_talkFault 2 := ⟨List.mem_of_getElem? (i := 497) (by decide +kernel), by decide +kernel, by decide +kernel, by decide +kernel, ⟨by decide +kernel, by decide +kernel, by decide +kernel⟩⟩
set_option maxHeartbeats 4000000 in
set_option maxRecDepth 100000 in
theorem cl_tryTalk {l : Launch} {w : Wd} {sg : Sg} (hWr : Wr w) (b v : Int32) {c : Nat} {g : Gs} (hR : Rel sg c g) (hI : Inv g) : M l mtX1_tryTalk w [vR (some (1, 0, c)), vI b, vI v] sg (rI (fun x sg2 => x = b01 (cTalk g b v) ∧ Rel sg2 c (if cTalk g b v then pB g b 3 v else g) ∧ Fr c sg sg2)) := by
  refine M_of [some (vR (some (1, 0, c))), some (vI b), some (vI v), none] rfl (Nat.le_of_ble_eq_true rfl) (by decide +kernel) ?_
  intro p_ e_ s_ m_ args_ below_ meth_ c_ hC hO
  refine V_join 14 (b01 (cTalk g b v)) ?_ (fun j14 => ?_)
  · refine V_nameI (fun ok e_ok => ?_)
    refine V_istore_n hC [some _, some _, some _, some _] kX1_tryTalk_14 rfl (Nat.le_of_ble_eq_true rfl) ?_
    refine V_iload_n hC kX1_tryTalk_15 rfl ?_
    refine V_if_eq hC 26 kX1_tryTalk_16 (by decide) (fun h16 => ?_) (fun h16 => ?_)
    · refine V_iload_n hC kX1_tryTalk_26 rfl ?_
      refine V_iretz hC rfl kX1_tryTalk_27 ?_ ?_
      · rw [e_ok]; exact b01_z _
      · subst e_ok
        first
        | (have hno := b01e.mp h16; exact ⟨_, by with_reducible rfl, rfl, by rw [if_neg hno]; exact hR, Fr.rf c sg⟩)
        | (refine ⟨_, by with_reducible rfl, rfl, ?_, h22.2.2⟩; rw [if_pos (b01n.mp h16)]; exact h22.2.1)
    · refine V_aload_n hC kX1_tryTalk_19 rfl ?_
      refine V_iload_n hC kX1_tryTalk_20 rfl ?_
      refine V_iload_n hC kX1_tryTalk_21 rfl ?_
      have hyes := b1_of e_ok h16
      obtain ⟨n, hn, rfl⟩ := in_B hI.hc5 hyes.1
      refine V_cV_rI hC (cl_putTalk hWr v hR hI hn) mkX1_putTalk lmX1_158 kX1_tryTalk_22 (Nat.le_of_ble_eq_true rfl) rfl rfl rfl (Nat.le_of_ble_eq_true rfl) ⟨(Nat.le_of_ble_eq_true rfl), (Nat.le_of_ble_eq_true rfl)⟩ ⟨rfl, rfl⟩ ⟨(Nat.le_of_ble_eq_true rfl), (Nat.le_of_ble_eq_true rfl)⟩ (fun x22 g22 h22 => ?_)
      refine V_pop hC kX1_tryTalk_25 rfl ?_
      refine V_iload_n hC kX1_tryTalk_26 rfl ?_
      refine V_iretz hC rfl kX1_tryTalk_27 ?_ ?_
      · rw [e_ok]; exact b01_z _
      · subst e_ok
        first
        | (have hno := b01e.mp h16; exact ⟨_, by with_reducible rfl, rfl, by rw [if_neg hno]; exact hR, Fr.rf c sg⟩)
        | (refine ⟨_, by with_reducible rfl, rfl, ?_, h22.2.2⟩; rw [if_pos (b01n.mp h16)]; exact h22.2.1)
  · refine V_aload_n hC kX1_tryTalk_0 rfl ?_
    refine V_iload_n hC kX1_tryTalk_1 rfl ?_
    refine V_iload_n hC kX1_tryTalk_2 rfl ?_
    refine V_cV_fI hC (cl_talkFault hWr b v hR hI) mkX1_talkFault lmX1_155 kX1_tryTalk_3 (Nat.le_of_ble_eq_true rfl) rfl rfl rfl (Nat.le_of_ble_eq_true rfl) ⟨(Nat.le_of_ble_eq_true rfl), (Nat.le_of_ble_eq_true rfl)⟩ ⟨rfl, rfl⟩ ⟨(Nat.le_of_ble_eq_true rfl), (Nat.le_of_ble_eq_true rfl)⟩ ?_
    refine V_if_ne hC 13 kX1_tryTalk_6 (by decide) (fun h6 => ?_) (fun h6 => ?_)
    · refine V_iconst hC (0) kX1_tryTalk_13 (by decide) ?_
      exact j14 _ ((b01_f (fun z => h6 (KT_0.mpr z))).symm)
    · refine V_iconst hC (1) kX1_tryTalk_9 (by decide) ?_
      refine V_goto hC 14 kX1_tryTalk_10 (by decide) ?_
      exact j14 _ ((b01_t (KT_0.mp h6)).symm)
def mtX1_tryLean : Mt := (yX1_tryLean, cX1_tryLean, 4, (some .boolean), 2, 45, 0, 0)
theorem kX1_tryLean_0 : Dk mtX1_tryLean 0 (.aload_n 0) 1 1 := ⟨by decide +kernel, rfl⟩
theorem kX1_tryLean_1 : Dk mtX1_tryLean 1 (.iload_n 1) 1 2 := ⟨by decide +kernel, rfl⟩
theorem kX1_tryLean_2 : Dk mtX1_tryLean 2 (.iload_n 2) 1 3 := ⟨by decide +kernel, rfl⟩
theorem kX1_tryLean_3 : Dk mtX1_tryLean 3 (.invokevirtual 161) 3 6 := ⟨by decide +kernel, rfl⟩
theorem kX1_tryLean_6 : Dk mtX1_tryLean 6 (.ifCond .ne 7) 3 9 := ⟨by decide +kernel, rfl⟩
theorem kX1_tryLean_9 : Dk mtX1_tryLean 9 (.iconst 1) 1 10 := ⟨by decide +kernel, rfl⟩
theorem kX1_tryLean_10 : Dk mtX1_tryLean 10 (.goto 4) 3 13 := ⟨by decide +kernel, rfl⟩
theorem kX1_tryLean_13 : Dk mtX1_tryLean 13 (.iconst 0) 1 14 := ⟨by decide +kernel, rfl⟩
theorem kX1_tryLean_14 : Dk mtX1_tryLean 14 (.istore_n 3) 1 15 := ⟨by decide +kernel, rfl⟩
theorem kX1_tryLean_15 : Dk mtX1_tryLean 15 (.iload_n 3) 1 16 := ⟨by decide +kernel, rfl⟩
theorem kX1_tryLean_16 : Dk mtX1_tryLean 16 (.ifCond .eq 10) 3 19 := ⟨by decide +kernel, rfl⟩
theorem kX1_tryLean_19 : Dk mtX1_tryLean 19 (.aload_n 0) 1 20 := ⟨by decide +kernel, rfl⟩
theorem kX1_tryLean_20 : Dk mtX1_tryLean 20 (.iload_n 1) 1 21 := ⟨by decide +kernel, rfl⟩
theorem kX1_tryLean_21 : Dk mtX1_tryLean 21 (.iload_n 2) 1 22 := ⟨by decide +kernel, rfl⟩
theorem kX1_tryLean_22 : Dk mtX1_tryLean 22 (.invokevirtual 164) 3 25 := ⟨by decide +kernel, rfl⟩
theorem kX1_tryLean_25 : Dk mtX1_tryLean 25 (.pop) 1 26 := ⟨by decide +kernel, rfl⟩
theorem kX1_tryLean_26 : Dk mtX1_tryLean 26 (.iload_n 3) 1 27 := ⟨by decide +kernel, rfl⟩
theorem kX1_tryLean_27 : Dk mtX1_tryLean 27 (.ireturn) 1 28 := ⟨by decide +kernel, rfl⟩
theorem lmX1_164 : LkM RX1 164 mtX1_putLeaning := Or.inl (by decide +kernel)
theorem mkX1_putLeaning : MkV mtX1_putLeaning 2 := ⟨List.mem_of_getElem? (i := 513) (by decide +kernel), by decide +kernel, by decide +kernel, by decide +kernel, ⟨by decide +kernel, by decide +kernel, by decide +kernel⟩⟩
theorem lmX1_161 : LkM RX1 161 mtX1_leanFault := Or.inl (by decide +kernel)
theorem mkX1_leanFault : MkV mtX1_leanFault 2 := ⟨List.mem_of_getElem? (i := 509) (by decide +kernel), by decide +kernel, by decide +kernel, by decide +kernel, ⟨by decide +kernel, by decide +kernel, by decide +kernel⟩⟩
set_option maxHeartbeats 4000000 in
set_option maxRecDepth 100000 in
theorem cl_tryLean {l : Launch} {w : Wd} {sg : Sg} (hWr : Wr w) (b v : Int32) {c : Nat} {g : Gs} (hR : Rel sg c g) (hI : Inv g) : M l mtX1_tryLean w [vR (some (1, 0, c)), vI b, vI v] sg (rI (fun x sg2 => x = b01 (cLean g b v) ∧ Rel sg2 c (if cLean g b v then F_lean g b v else g) ∧ Fr c sg sg2)) := by
  refine M_of [some (vR (some (1, 0, c))), some (vI b), some (vI v), none] rfl (Nat.le_of_ble_eq_true rfl) (by decide +kernel) ?_
  intro p_ e_ s_ m_ args_ below_ meth_ c_ hC hO
  refine V_join 14 (b01 (cLean g b v)) ?_ (fun j14 => ?_)
  · refine V_nameI (fun ok e_ok => ?_)
    refine V_istore_n hC [some _, some _, some _, some _] kX1_tryLean_14 rfl (Nat.le_of_ble_eq_true rfl) ?_
    refine V_iload_n hC kX1_tryLean_15 rfl ?_
    refine V_if_eq hC 26 kX1_tryLean_16 (by decide) (fun h16 => ?_) (fun h16 => ?_)
    · refine V_iload_n hC kX1_tryLean_26 rfl ?_
      refine V_iretz hC rfl kX1_tryLean_27 ?_ ?_
      · rw [e_ok]; exact b01_z _
      · subst e_ok
        first
        | (have hno := b01e.mp h16; exact ⟨_, by with_reducible rfl, rfl, by rw [if_neg hno]; exact hR, Fr.rf c sg⟩)
        | (refine ⟨_, by with_reducible rfl, rfl, ?_, h22.2.2⟩; rw [if_pos (b01n.mp h16)]; exact h22.2.1)
    · refine V_aload_n hC kX1_tryLean_19 rfl ?_
      refine V_iload_n hC kX1_tryLean_20 rfl ?_
      refine V_iload_n hC kX1_tryLean_21 rfl ?_
      have hyes := b1_of e_ok h16
      obtain ⟨n, hn, rfl⟩ := in_L hI.hc4 hyes.1
      refine V_cV_rI hC (cl_putLeaning hWr v hR hI hn) mkX1_putLeaning lmX1_164 kX1_tryLean_22 (Nat.le_of_ble_eq_true rfl) rfl rfl rfl (Nat.le_of_ble_eq_true rfl) ⟨(Nat.le_of_ble_eq_true rfl), (Nat.le_of_ble_eq_true rfl)⟩ ⟨rfl, rfl⟩ ⟨(Nat.le_of_ble_eq_true rfl), (Nat.le_of_ble_eq_true rfl)⟩ (fun x22 g22 h22 => ?_)
      refine V_pop hC kX1_tryLean_25 rfl ?_
      refine V_iload_n hC kX1_tryLean_26 rfl ?_
      refine V_iretz hC rfl kX1_tryLean_27 ?_ ?_
      · rw [e_ok]; exact b01_z _
      · subst e_ok
        first
        | (have hno := b01e.mp h16; exact ⟨_, by with_reducible rfl, rfl, by rw [if_neg hno]; exact hR, Fr.rf c sg⟩)
        | (refine ⟨_, by with_reducible rfl, rfl, ?_, h22.2.2⟩; rw [if_pos (b01n.mp h16)]; exact h22.2.1)
  · refine V_aload_n hC kX1_tryLean_0 rfl ?_
    refine V_iload_n hC kX1_tryLean_1 rfl ?_
    refine V_iload_n hC kX1_tryLean_2 rfl ?_
    refine V_cV_fI hC (cl_leanFault hWr b v hR hI) mkX1_leanFault lmX1_161 kX1_tryLean_3 (Nat.le_of_ble_eq_true rfl) rfl rfl rfl (Nat.le_of_ble_eq_true rfl) ⟨(Nat.le_of_ble_eq_true rfl), (Nat.le_of_ble_eq_true rfl)⟩ ⟨rfl, rfl⟩ ⟨(Nat.le_of_ble_eq_true rfl), (Nat.le_of_ble_eq_true rfl)⟩ ?_
    refine V_if_ne hC 13 kX1_tryLean_6 (by decide) (fun h6 => ?_) (fun h6 => ?_)
    · refine V_iconst hC (0) kX1_tryLean_13 (by decide) ?_
      exact j14 _ ((b01_f (fun z => h6 (KE_0.mpr z))).symm)
    · refine V_iconst hC (1) kX1_tryLean_9 (by decide) ?_
      refine V_goto hC 14 kX1_tryLean_10 (by decide) ?_
      exact j14 _ ((b01_t (KE_0.mp h6)).symm)
def mtX1_tryDim : Mt := (yX1_tryDim, cX1_tryDim, 4, (some .boolean), 2, 45, 0, 0)
theorem kX1_tryDim_0 : Dk mtX1_tryDim 0 (.aload_n 0) 1 1 := ⟨by decide +kernel, rfl⟩
theorem kX1_tryDim_1 : Dk mtX1_tryDim 1 (.iload_n 1) 1 2 := ⟨by decide +kernel, rfl⟩
theorem kX1_tryDim_2 : Dk mtX1_tryDim 2 (.iload_n 2) 1 3 := ⟨by decide +kernel, rfl⟩
theorem kX1_tryDim_3 : Dk mtX1_tryDim 3 (.invokevirtual 167) 3 6 := ⟨by decide +kernel, rfl⟩
theorem kX1_tryDim_6 : Dk mtX1_tryDim 6 (.ifCond .ne 7) 3 9 := ⟨by decide +kernel, rfl⟩
theorem kX1_tryDim_9 : Dk mtX1_tryDim 9 (.iconst 1) 1 10 := ⟨by decide +kernel, rfl⟩
theorem kX1_tryDim_10 : Dk mtX1_tryDim 10 (.goto 4) 3 13 := ⟨by decide +kernel, rfl⟩
theorem kX1_tryDim_13 : Dk mtX1_tryDim 13 (.iconst 0) 1 14 := ⟨by decide +kernel, rfl⟩
theorem kX1_tryDim_14 : Dk mtX1_tryDim 14 (.istore_n 3) 1 15 := ⟨by decide +kernel, rfl⟩
theorem kX1_tryDim_15 : Dk mtX1_tryDim 15 (.iload_n 3) 1 16 := ⟨by decide +kernel, rfl⟩
theorem kX1_tryDim_16 : Dk mtX1_tryDim 16 (.ifCond .eq 10) 3 19 := ⟨by decide +kernel, rfl⟩
theorem kX1_tryDim_19 : Dk mtX1_tryDim 19 (.aload_n 0) 1 20 := ⟨by decide +kernel, rfl⟩
theorem kX1_tryDim_20 : Dk mtX1_tryDim 20 (.iload_n 1) 1 21 := ⟨by decide +kernel, rfl⟩
theorem kX1_tryDim_21 : Dk mtX1_tryDim 21 (.iload_n 2) 1 22 := ⟨by decide +kernel, rfl⟩
theorem kX1_tryDim_22 : Dk mtX1_tryDim 22 (.invokevirtual 170) 3 25 := ⟨by decide +kernel, rfl⟩
theorem kX1_tryDim_25 : Dk mtX1_tryDim 25 (.pop) 1 26 := ⟨by decide +kernel, rfl⟩
theorem kX1_tryDim_26 : Dk mtX1_tryDim 26 (.iload_n 3) 1 27 := ⟨by decide +kernel, rfl⟩
theorem kX1_tryDim_27 : Dk mtX1_tryDim 27 (.ireturn) 1 28 := ⟨by decide +kernel, rfl⟩
theorem lmX1_170 : LkM RX1 170 mtX1_putStrength := Or.inl (by decide +kernel)
theorem mkX1_putStrength : MkV mtX1_putStrength 2 := ⟨List.mem_of_getElem? (i := 525) (by decide +kernel), by decide +kernel, by decide +kernel, by decide +kernel, ⟨by decide +kernel, by decide +kernel, by decide +kernel⟩⟩
theorem lmX1_167 : LkM RX1 167 mtX1_dimFault := Or.inl (by decide +kernel)
theorem mkX1_dimFault : MkV mtX1_dimFault 2 := ⟨List.mem_of_getElem? (i := 521) (by decide +kernel), by decide +kernel, by decide +kernel, by decide +kernel, ⟨by decide +kernel, by decide +kernel, by decide +kernel⟩⟩
set_option maxHeartbeats 4000000 in
set_option maxRecDepth 100000 in
theorem cl_tryDim {l : Launch} {w : Wd} {sg : Sg} (hWr : Wr w) (b v : Int32) {c : Nat} {g : Gs} (hR : Rel sg c g) (hI : Inv g) : M l mtX1_tryDim w [vR (some (1, 0, c)), vI b, vI v] sg (rI (fun x sg2 => x = b01 (cDim g b v) ∧ Rel sg2 c (if cDim g b v then F_dim g b v else g) ∧ Fr c sg sg2)) := by
  refine M_of [some (vR (some (1, 0, c))), some (vI b), some (vI v), none] rfl (Nat.le_of_ble_eq_true rfl) (by decide +kernel) ?_
  intro p_ e_ s_ m_ args_ below_ meth_ c_ hC hO
  refine V_join 14 (b01 (cDim g b v)) ?_ (fun j14 => ?_)
  · refine V_nameI (fun ok e_ok => ?_)
    refine V_istore_n hC [some _, some _, some _, some _] kX1_tryDim_14 rfl (Nat.le_of_ble_eq_true rfl) ?_
    refine V_iload_n hC kX1_tryDim_15 rfl ?_
    refine V_if_eq hC 26 kX1_tryDim_16 (by decide) (fun h16 => ?_) (fun h16 => ?_)
    · refine V_iload_n hC kX1_tryDim_26 rfl ?_
      refine V_iretz hC rfl kX1_tryDim_27 ?_ ?_
      · rw [e_ok]; exact b01_z _
      · subst e_ok
        first
        | (have hno := b01e.mp h16; exact ⟨_, by with_reducible rfl, rfl, by rw [if_neg hno]; exact hR, Fr.rf c sg⟩)
        | (refine ⟨_, by with_reducible rfl, rfl, ?_, h22.2.2⟩; rw [if_pos (b01n.mp h16)]; exact h22.2.1)
    · refine V_aload_n hC kX1_tryDim_19 rfl ?_
      refine V_iload_n hC kX1_tryDim_20 rfl ?_
      refine V_iload_n hC kX1_tryDim_21 rfl ?_
      have hyes := b1_of e_ok h16
      obtain ⟨n, hn, rfl⟩ := in_L hI.hc4 hyes.1
      refine V_cV_rI hC (cl_putStrength hWr v hR hI hn) mkX1_putStrength lmX1_170 kX1_tryDim_22 (Nat.le_of_ble_eq_true rfl) rfl rfl rfl (Nat.le_of_ble_eq_true rfl) ⟨(Nat.le_of_ble_eq_true rfl), (Nat.le_of_ble_eq_true rfl)⟩ ⟨rfl, rfl⟩ ⟨(Nat.le_of_ble_eq_true rfl), (Nat.le_of_ble_eq_true rfl)⟩ (fun x22 g22 h22 => ?_)
      refine V_pop hC kX1_tryDim_25 rfl ?_
      refine V_iload_n hC kX1_tryDim_26 rfl ?_
      refine V_iretz hC rfl kX1_tryDim_27 ?_ ?_
      · rw [e_ok]; exact b01_z _
      · subst e_ok
        first
        | (have hno := b01e.mp h16; exact ⟨_, by with_reducible rfl, rfl, by rw [if_neg hno]; exact hR, Fr.rf c sg⟩)
        | (refine ⟨_, by with_reducible rfl, rfl, ?_, h22.2.2⟩; rw [if_pos (b01n.mp h16)]; exact h22.2.1)
  · refine V_aload_n hC kX1_tryDim_0 rfl ?_
    refine V_iload_n hC kX1_tryDim_1 rfl ?_
    refine V_iload_n hC kX1_tryDim_2 rfl ?_
    refine V_cV_fI hC (cl_dimFault hWr b v hR hI) mkX1_dimFault lmX1_167 kX1_tryDim_3 (Nat.le_of_ble_eq_true rfl) rfl rfl rfl (Nat.le_of_ble_eq_true rfl) ⟨(Nat.le_of_ble_eq_true rfl), (Nat.le_of_ble_eq_true rfl)⟩ ⟨rfl, rfl⟩ ⟨(Nat.le_of_ble_eq_true rfl), (Nat.le_of_ble_eq_true rfl)⟩ ?_
    refine V_if_ne hC 13 kX1_tryDim_6 (by decide) (fun h6 => ?_) (fun h6 => ?_)
    · refine V_iconst hC (0) kX1_tryDim_13 (by decide) ?_
      exact j14 _ ((b01_f (fun z => h6 (KD_0.mpr z))).symm)
    · refine V_iconst hC (1) kX1_tryDim_9 (by decide) ?_
      refine V_goto hC 14 kX1_tryDim_10 (by decide) ?_
      exact j14 _ ((b01_t (KD_0.mp h6)).symm)
theorem mkX5_isSettingValue : MkS mtX5_isSettingValue 2 := ⟨List.mem_of_getElem? (i := 708) (by decide +kernel), by decide +kernel, by decide +kernel, ⟨by decide +kernel, by decide +kernel, by decide +kernel⟩⟩
theorem mkX1_putSetting : MkV mtX1_putSetting 2 := ⟨List.mem_of_getElem? (i := 717) (by decide +kernel), by decide +kernel, by decide +kernel, by decide +kernel, ⟨by decide +kernel, by decide +kernel, by decide +kernel⟩⟩
