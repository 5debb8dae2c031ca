-- HOW ct_in fI
-- HOW ct_fails fI
-- HOW ct_of fI
-- HOW ct_ofBoat fI
-- HOW ct_layBoat fV
-- HOW ct_isLight fI
-- HOW ct_isBoat fI
-- HOW ct_isPlace fI
-- HOW ct_bright fI
-- HOW ct_worth fI
-- HOW ct_serves fI
-- HOW ct_best fI
-- HOW ct_sails fV
-- HOW ct_drops fV
-- HOW ct_wished fI
-- HOW ct_hands fV
-- HOW ct_wishes fV
-- HOW ct_finds fV
-- HOW ct_goesOn fV
-- HOW ct_goesTick fV
-- HOW ct_goesBy fI
-- HOW ct_putAside fV
-- HOW ct_takeBack fV
-- HOW ct_isLamp fI
-- HOW ct_addsLight fI
-- HOW ct_actsLight fI
-- HOW ct_addsBoat fI
-- HOW ct_actsBoat fI
-- HOW ct_actsSteer fI
-- HOW ct_canTalk fI
-- HOW ct_actsTalk fI
-- HOW ct_actsLean fI
-- HOW ct_actsDim fI
-- HOW ct_mostOf fI
-- HOW ct_isSetting fI
-- HOW ct_actsSet fI
-- HOW ct_actsTicks fI
-- HOW ct_boatsThat fI
-- HOW ct_servedBy fI
/-! the reference: rows copied, actions -/
def cpy (f g : Nat → Int32) (n : Nat) : Nat → Int32 := fun z => if z < n then f z else g z
theorem cpy_0 (f g : Nat → Int32) : cpy f g 0 = g := by funext z; simp [cpy]
theorem cpy_s (f g : Nat → Int32) (n : Nat) : upd (cpy f g n) n (f n) = cpy f g (n + 1) := by
  funext z
  unfold cpy upd
  by_cases h : z = n
  · subst h; simp
  · rw [if_neg h]
    by_cases h2 : z < n
    · show (if z < n then f z else g z) = _
      rw [if_pos h2, if_pos (by omega)]
    · show (if z < n then f z else g z) = _
      rw [if_neg h2, if_neg (by omega)]
theorem nI_lit {x : Int32} {n : Nat} (h : x = nI n) : nI n ≤ x := by rw [h]; exact Int32.le_refl _
def mtX6_putAside : Mt := (yX6_putAside, cX6_putAside, 2, none, 0, 0, 0, 0)
theorem kX6_putAside_0 : Dk mtX6_putAside 0 (.iconst 0) 1 1 := ⟨by decide +kernel, rfl⟩
theorem kX6_putAside_1 : Dk mtX6_putAside 1 (.istore_n 1) 1 2 := ⟨by decide +kernel, rfl⟩
theorem kX6_putAside_2 : Dk mtX6_putAside 2 (.iload_n 1) 1 3 := ⟨by decide +kernel, rfl⟩
theorem kX6_putAside_3 : Dk mtX6_putAside 3 (.sipush 140) 3 6 := ⟨by decide +kernel, rfl⟩
theorem kX6_putAside_6 : Dk mtX6_putAside 6 (.if_icmp .ge 21) 3 9 := ⟨by decide +kernel, rfl⟩
theorem kX6_putAside_9 : Dk mtX6_putAside 9 (.aload_n 0) 1 10 := ⟨by decide +kernel, rfl⟩
theorem kX6_putAside_10 : Dk mtX6_putAside 10 (.getfield 13) 3 13 := ⟨by decide +kernel, rfl⟩
theorem kX6_putAside_13 : Dk mtX6_putAside 13 (.iload_n 1) 1 14 := ⟨by decide +kernel, rfl⟩
theorem kX6_putAside_14 : Dk mtX6_putAside 14 (.aload_n 0) 1 15 := ⟨by decide +kernel, rfl⟩
theorem kX6_putAside_15 : Dk mtX6_putAside 15 (.getfield 7) 3 18 := ⟨by decide +kernel, rfl⟩
theorem kX6_putAside_18 : Dk mtX6_putAside 18 (.iload_n 1) 1 19 := ⟨by decide +kernel, rfl⟩
theorem kX6_putAside_19 : Dk mtX6_putAside 19 (.iaload) 1 20 := ⟨by decide +kernel, rfl⟩
theorem kX6_putAside_20 : Dk mtX6_putAside 20 (.iastore) 1 21 := ⟨by decide +kernel, rfl⟩
theorem kX6_putAside_21 : Dk mtX6_putAside 21 (.iinc 1 1) 3 24 := ⟨by decide +kernel, rfl⟩
theorem kX6_putAside_24 : Dk mtX6_putAside 24 (.goto (-22)) 3 27 := ⟨by decide +kernel, rfl⟩
theorem kX6_putAside_27 : Dk mtX6_putAside 27 (.return_) 1 28 := ⟨by decide +kernel, rfl⟩
theorem lfX6_13 : LkF RX6 13 6 2 := Or.inl (by decide +kernel)
set_option maxHeartbeats 4000000 in
set_option maxRecDepth 100000 in
theorem ct_putAside {l : Launch} {w : Wd} {sg : Sg} (hWr : Wr w) {mo : Nat} : M l mtX6_putAside w [vR (some (6, 0, mo))] sg (fV0 (upr sg (mo + 2) (cpy (sg (mo + 1)) (sg (mo + 2)) 140))) := by
  refine M_of [some (vR (some (6, 0, mo))), none] rfl (Nat.le_of_ble_eq_true rfl) (by decide +kernel) ?_
  intro p_ e_ s_ m_ args_ below_ meth_ c_ hC hO
  refine V_iconst hC (0) kX6_putAside_0 (by decide) ?_
  refine V_istore_n hC [some _, some _] kX6_putAside_1 rfl (Nat.le_of_ble_eq_true rfl) ?_
  refine V_canon (upr sg (mo + 2) (cpy (sg (mo + 1)) (sg (mo + 2)) 0)) (by rw [cpy_0, upr_self]) ?_
  refine V_loop 140 (fun i => [some (vR (some (6, 0, mo))), some (vI (nI i))]) (fun i => upr sg (mo + 2) (cpy (sg (mo + 1)) (sg (mo + 2)) i)) rfl rfl ?_ (fun i hi ihi => ?_)
  · refine V_iload_n hC kX6_putAside_2 rfl ?_
    refine V_sipush hC (140) kX6_putAside_3 (by decide) ?_
    refine V_icmp_ge hC 27 kX6_putAside_6 (by decide) (fun h6 => ?_) (fun h6 => absurd h6 (not_not_intro (nI_lit rfl)))
    refine V_vret hC rfl kX6_putAside_27 ?_
    exact ⟨by with_reducible rfl, by with_reducible rfl⟩
  · refine V_iload_n hC kX6_putAside_2 rfl ?_
    refine V_sipush hC (140) kX6_putAside_3 (by decide) ?_
    refine V_icmp_ge hC 27 kX6_putAside_6 (by decide) (fun h6 => absurd h6 (by exact nI_ge (b := 140) hi (by decide))) (fun h6 => ?_)
    refine V_aload_n hC kX6_putAside_9 rfl ?_
    refine V_getR hC hWr 6 2 lfX6_13 kX6_putAside_10 (Nat.le_of_ble_eq_true rfl) (Nat.le_of_ble_eq_true rfl) rfl ?_
    refine V_iload_n hC kX6_putAside_13 rfl ?_
    refine V_aload_n hC kX6_putAside_14 rfl ?_
    refine V_getR hC hWr 6 1 lfX6_7 kX6_putAside_15 (Nat.le_of_ble_eq_true rfl) (Nat.le_of_ble_eq_true rfl) rfl ?_
    refine V_iload_n hC kX6_putAside_18 rfl ?_
    refine V_iald hC i (nI_clamp (by omega)) kX6_putAside_19 (vp_in_nI hi (by decide)) ?_
    refine V_iast hC i (nI_clamp (by omega)) kX6_putAside_20 (vp_in_nI hi (by decide)) ?_
    refine V_iinc hC (_ + 1) [some _, some _] kX6_putAside_21 rfl rfl rfl (Nat.le_of_ble_eq_true rfl) ?_
    refine V_goto hC 2 kX6_putAside_24 (by decide) ?_
    refine V_eq (by rw [nI_succ]) ?_ ihi
    unfold ups
    rw [upr_at, upr_upr, upr_ne _ _ (by omega), cpy_s]
def mtX6_takeBack : Mt := (yX6_takeBack, cX6_takeBack, 2, none, 0, 0, 0, 0)
theorem kX6_takeBack_0 : Dk mtX6_takeBack 0 (.iconst 0) 1 1 := ⟨by decide +kernel, rfl⟩
theorem kX6_takeBack_1 : Dk mtX6_takeBack 1 (.istore_n 1) 1 2 := ⟨by decide +kernel, rfl⟩
theorem kX6_takeBack_2 : Dk mtX6_takeBack 2 (.iload_n 1) 1 3 := ⟨by decide +kernel, rfl⟩
theorem kX6_takeBack_3 : Dk mtX6_takeBack 3 (.sipush 140) 3 6 := ⟨by decide +kernel, rfl⟩
theorem kX6_takeBack_6 : Dk mtX6_takeBack 6 (.if_icmp .ge 21) 3 9 := ⟨by decide +kernel, rfl⟩
theorem kX6_takeBack_9 : Dk mtX6_takeBack 9 (.aload_n 0) 1 10 := ⟨by decide +kernel, rfl⟩
theorem kX6_takeBack_10 : Dk mtX6_takeBack 10 (.getfield 7) 3 13 := ⟨by decide +kernel, rfl⟩
theorem kX6_takeBack_13 : Dk mtX6_takeBack 13 (.iload_n 1) 1 14 := ⟨by decide +kernel, rfl⟩
theorem kX6_takeBack_14 : Dk mtX6_takeBack 14 (.aload_n 0) 1 15 := ⟨by decide +kernel, rfl⟩
theorem kX6_takeBack_15 : Dk mtX6_takeBack 15 (.getfield 13) 3 18 := ⟨by decide +kernel, rfl⟩
theorem kX6_takeBack_18 : Dk mtX6_takeBack 18 (.iload_n 1) 1 19 := ⟨by decide +kernel, rfl⟩
theorem kX6_takeBack_19 : Dk mtX6_takeBack 19 (.iaload) 1 20 := ⟨by decide +kernel, rfl⟩
theorem kX6_takeBack_20 : Dk mtX6_takeBack 20 (.iastore) 1 21 := ⟨by decide +kernel, rfl⟩
theorem kX6_takeBack_21 : Dk mtX6_takeBack 21 (.iinc 1 1) 3 24 := ⟨by decide +kernel, rfl⟩
theorem kX6_takeBack_24 : Dk mtX6_takeBack 24 (.goto (-22)) 3 27 := ⟨by decide +kernel, rfl⟩
theorem kX6_takeBack_27 : Dk mtX6_takeBack 27 (.return_) 1 28 := ⟨by decide +kernel, rfl⟩
set_option maxHeartbeats 4000000 in
set_option maxRecDepth 100000 in
theorem ct_takeBack {l : Launch} {w : Wd} {sg : Sg} (hWr : Wr w) {mo : Nat} : M l mtX6_takeBack w [vR (some (6, 0, mo))] sg (fV0 (upr sg (mo + 1) (cpy (sg (mo + 2)) (sg (mo + 1)) 140))) := by
  refine M_of [some (vR (some (6, 0, mo))), none] rfl (Nat.le_of_ble_eq_true rfl) (by decide +kernel) ?_
  intro p_ e_ s_ m_ args_ below_ meth_ c_ hC hO
  refine V_iconst hC (0) kX6_takeBack_0 (by decide) ?_
  refine V_istore_n hC [some _, some _] kX6_takeBack_1 rfl (Nat.le_of_ble_eq_true rfl) ?_
  refine V_canon (upr sg (mo + 1) (cpy (sg (mo + 2)) (sg (mo + 1)) 0)) (by rw [cpy_0, upr_self]) ?_
  refine V_loop 140 (fun i => [some (vR (some (6, 0, mo))), some (vI (nI i))]) (fun i => upr sg (mo + 1) (cpy (sg (mo + 2)) (sg (mo + 1)) i)) rfl rfl ?_ (fun i hi ihi => ?_)
  · refine V_iload_n hC kX6_takeBack_2 rfl ?_
    refine V_sipush hC (140) kX6_takeBack_3 (by decide) ?_
    refine V_icmp_ge hC 27 kX6_takeBack_6 (by decide) (fun h6 => ?_) (fun h6 => absurd h6 (not_not_intro (nI_lit rfl)))
    refine V_vret hC rfl kX6_takeBack_27 ?_
    exact ⟨by with_reducible rfl, by with_reducible rfl⟩
  · refine V_iload_n hC kX6_takeBack_2 rfl ?_
    refine V_sipush hC (140) kX6_takeBack_3 (by decide) ?_
    refine V_icmp_ge hC 27 kX6_takeBack_6 (by decide) (fun h6 => absurd h6 (by exact nI_ge (b := 140) hi (by decide))) (fun h6 => ?_)
    refine V_aload_n hC kX6_takeBack_9 rfl ?_
    refine V_getR hC hWr 6 1 lfX6_7 kX6_takeBack_10 (Nat.le_of_ble_eq_true rfl) (Nat.le_of_ble_eq_true rfl) rfl ?_
    refine V_iload_n hC kX6_takeBack_13 rfl ?_
    refine V_aload_n hC kX6_takeBack_14 rfl ?_
    refine V_getR hC hWr 6 2 lfX6_13 kX6_takeBack_15 (Nat.le_of_ble_eq_true rfl) (Nat.le_of_ble_eq_true rfl) rfl ?_
    refine V_iload_n hC kX6_takeBack_18 rfl ?_
    refine V_iald hC i (nI_clamp (by omega)) kX6_takeBack_19 (vp_in_nI hi (by decide)) ?_
    refine V_iast hC i (nI_clamp (by omega)) kX6_takeBack_20 (vp_in_nI hi (by decide)) ?_
    refine V_iinc hC (_ + 1) [some _, some _] kX6_takeBack_21 rfl rfl rfl (Nat.le_of_ble_eq_true rfl) ?_
    refine V_goto hC 2 kX6_takeBack_24 (by decide) ?_
    refine V_eq (by rw [nI_succ]) ?_ ihi
    unfold ups
    rw [upr_at, upr_upr, upr_ne _ _ (by omega), cpy_s]
def mtX6_isLamp : Mt := (yX6_isLamp, cX6_isLamp, 6, (some .boolean), 1, 22, 0, 0)
theorem kX6_isLamp_0 : Dk mtX6_isLamp 0 (.iload_n 0) 1 1 := ⟨by decide +kernel, rfl⟩
theorem kX6_isLamp_1 : Dk mtX6_isLamp 1 (.bipush 10) 2 3 := ⟨by decide +kernel, rfl⟩
theorem kX6_isLamp_3 : Dk mtX6_isLamp 3 (.bipush 99) 2 5 := ⟨by decide +kernel, rfl⟩
theorem kX6_isLamp_5 : Dk mtX6_isLamp 5 (.invokestatic 39) 3 8 := ⟨by decide +kernel, rfl⟩
theorem kX6_isLamp_8 : Dk mtX6_isLamp 8 (.ifCond .eq 26) 3 11 := ⟨by decide +kernel, rfl⟩
theorem kX6_isLamp_11 : Dk mtX6_isLamp 11 (.iload_n 1) 1 12 := ⟨by decide +kernel, rfl⟩
theorem kX6_isLamp_12 : Dk mtX6_isLamp 12 (.iconst 0) 1 13 := ⟨by decide +kernel, rfl⟩
theorem kX6_isLamp_13 : Dk mtX6_isLamp 13 (.iconst 2) 1 14 := ⟨by decide +kernel, rfl⟩
theorem kX6_isLamp_14 : Dk mtX6_isLamp 14 (.invokestatic 39) 3 17 := ⟨by decide +kernel, rfl⟩
theorem kX6_isLamp_17 : Dk mtX6_isLamp 17 (.ifCond .eq 17) 3 20 := ⟨by decide +kernel, rfl⟩
theorem kX6_isLamp_20 : Dk mtX6_isLamp 20 (.iload_n 2) 1 21 := ⟨by decide +kernel, rfl⟩
theorem kX6_isLamp_21 : Dk mtX6_isLamp 21 (.iconst 1) 1 22 := ⟨by decide +kernel, rfl⟩
theorem kX6_isLamp_22 : Dk mtX6_isLamp 22 (.bipush 20) 2 24 := ⟨by decide +kernel, rfl⟩
theorem kX6_isLamp_24 : Dk mtX6_isLamp 24 (.invokestatic 39) 3 27 := ⟨by decide +kernel, rfl⟩
theorem kX6_isLamp_27 : Dk mtX6_isLamp 27 (.ifCond .eq 7) 3 30 := ⟨by decide +kernel, rfl⟩
theorem kX6_isLamp_30 : Dk mtX6_isLamp 30 (.iconst 1) 1 31 := ⟨by decide +kernel, rfl⟩
theorem kX6_isLamp_31 : Dk mtX6_isLamp 31 (.goto 4) 3 34 := ⟨by decide +kernel, rfl⟩
theorem kX6_isLamp_34 : Dk mtX6_isLamp 34 (.iconst 0) 1 35 := ⟨by decide +kernel, rfl⟩
theorem kX6_isLamp_35 : Dk mtX6_isLamp 35 (.istore 5) 2 37 := ⟨by decide +kernel, rfl⟩
theorem kX6_isLamp_37 : Dk mtX6_isLamp 37 (.iload 5) 2 39 := ⟨by decide +kernel, rfl⟩
theorem kX6_isLamp_39 : Dk mtX6_isLamp 39 (.ifCond .eq 27) 3 42 := ⟨by decide +kernel, rfl⟩
theorem kX6_isLamp_42 : Dk mtX6_isLamp 42 (.iload_n 3) 1 43 := ⟨by decide +kernel, rfl⟩
theorem kX6_isLamp_43 : Dk mtX6_isLamp 43 (.iconst 1) 1 44 := ⟨by decide +kernel, rfl⟩
theorem kX6_isLamp_44 : Dk mtX6_isLamp 44 (.bipush 6) 2 46 := ⟨by decide +kernel, rfl⟩
theorem kX6_isLamp_46 : Dk mtX6_isLamp 46 (.invokestatic 39) 3 49 := ⟨by decide +kernel, rfl⟩
theorem kX6_isLamp_49 : Dk mtX6_isLamp 49 (.ifCond .eq 17) 3 52 := ⟨by decide +kernel, rfl⟩
theorem kX6_isLamp_52 : Dk mtX6_isLamp 52 (.iload 4) 2 54 := ⟨by decide +kernel, rfl⟩
theorem kX6_isLamp_54 : Dk mtX6_isLamp 54 (.iconst 0) 1 55 := ⟨by decide +kernel, rfl⟩
theorem kX6_isLamp_55 : Dk mtX6_isLamp 55 (.iload_n 3) 1 56 := ⟨by decide +kernel, rfl⟩
theorem kX6_isLamp_56 : Dk mtX6_isLamp 56 (.invokestatic 39) 3 59 := ⟨by decide +kernel, rfl⟩
theorem kX6_isLamp_59 : Dk mtX6_isLamp 59 (.ifCond .eq 7) 3 62 := ⟨by decide +kernel, rfl⟩
theorem kX6_isLamp_62 : Dk mtX6_isLamp 62 (.iconst 1) 1 63 := ⟨by decide +kernel, rfl⟩
theorem kX6_isLamp_63 : Dk mtX6_isLamp 63 (.goto 4) 3 66 := ⟨by decide +kernel, rfl⟩
theorem kX6_isLamp_66 : Dk mtX6_isLamp 66 (.iconst 0) 1 67 := ⟨by decide +kernel, rfl⟩
theorem kX6_isLamp_67 : Dk mtX6_isLamp 67 (.ireturn) 1 68 := ⟨by decide +kernel, rfl⟩
set_option maxHeartbeats 4000000 in
set_option maxRecDepth 100000 in
theorem ct_isLamp {l : Launch} {w : Wd} {sg : Sg} (hWr : Wr w) (st k n bo re : Int32) : M l mtX6_isLamp w [vI st, vI k, vI n, vI bo, vI re] sg (fI (b01 (cLamp st k n bo re)) sg) := by
  refine M_of [some (vI st), some (vI k), some (vI n), some (vI bo), some (vI re), none] rfl (Nat.le_of_ble_eq_true rfl) (by decide +kernel) ?_
  intro p_ e_ s_ m_ args_ below_ meth_ c_ hC hO
  refine V_join 35 (b01 (inn st 10 99 ∧ inn k 0 2 ∧ inn n 1 20)) ?_ (fun j35 => ?_)
  · refine V_nameI (fun is1 e_is1 => ?_)
    refine V_istore hC [some _, some _, some _, some _, some _, some _] kX6_isLamp_35 rfl (Nat.le_of_ble_eq_true rfl) ?_
    refine V_iload hC kX6_isLamp_37 rfl ?_
    refine V_if_eq hC 66 kX6_isLamp_39 (by decide) (fun h39 => ?_) (fun h39 => ?_)
    · refine V_iconst hC (0) kX6_isLamp_66 (by decide) ?_
      refine V_iretz hC rfl kX6_isLamp_67 ?_ ?_
      · first | exact Or.inl rfl | exact Or.inr rfl | exact b01_z _
      · refine ⟨?_, by with_reducible rfl⟩
        first
          | exact cI (b01_f (fun z => (b0_of e_is1 h39) z.1)).symm
          | exact cI (b01_f (fun z => (b01e.mp h49) z.2.1)).symm
          | exact cI (b01_f (fun z => (b01e.mp h59) z.2.2)).symm
          | exact cI (b01_t ⟨b1_of e_is1 h39, b01n.mp h49, b01n.mp h59⟩).symm
    · refine V_iload_n hC kX6_isLamp_42 rfl ?_
      refine V_iconst hC (1) kX6_isLamp_43 (by decide) ?_
      refine V_bipush hC (6) kX6_isLamp_44 (by decide) ?_
      refine V_cS_fI hC (ct_in hWr _ _ _) mkX6_in lmX6_39 kX6_isLamp_46 rfl rfl (Nat.le_of_ble_eq_true rfl) ⟨(Nat.le_of_ble_eq_true rfl), (Nat.le_of_ble_eq_true rfl)⟩ ⟨rfl, rfl⟩ ⟨(Nat.le_of_ble_eq_true rfl), (Nat.le_of_ble_eq_true rfl)⟩ ?_
      refine V_if_eq hC 66 kX6_isLamp_49 (by decide) (fun h49 => ?_) (fun h49 => ?_)
      · refine V_iconst hC (0) kX6_isLamp_66 (by decide) ?_
        refine V_iretz hC rfl kX6_isLamp_67 ?_ ?_
        · first | exact Or.inl rfl | exact Or.inr rfl | exact b01_z _
        · refine ⟨?_, by with_reducible rfl⟩
          first
            | exact cI (b01_f (fun z => (b0_of e_is1 h39) z.1)).symm
            | exact cI (b01_f (fun z => (b01e.mp h49) z.2.1)).symm
            | exact cI (b01_f (fun z => (b01e.mp h59) z.2.2)).symm
            | exact cI (b01_t ⟨b1_of e_is1 h39, b01n.mp h49, b01n.mp h59⟩).symm
      · refine V_iload hC kX6_isLamp_52 rfl ?_
        refine V_iconst hC (0) kX6_isLamp_54 (by decide) ?_
        refine V_iload_n hC kX6_isLamp_55 rfl ?_
        refine V_cS_fI hC (ct_in hWr _ _ _) mkX6_in lmX6_39 kX6_isLamp_56 rfl rfl (Nat.le_of_ble_eq_true rfl) ⟨(Nat.le_of_ble_eq_true rfl), (Nat.le_of_ble_eq_true rfl)⟩ ⟨rfl, rfl⟩ ⟨(Nat.le_of_ble_eq_true rfl), (Nat.le_of_ble_eq_true rfl)⟩ ?_
        refine V_if_eq hC 66 kX6_isLamp_59 (by decide) (fun h59 => ?_) (fun h59 => ?_)
        · refine V_iconst hC (0) kX6_isLamp_66 (by decide) ?_
          refine V_iretz hC rfl kX6_isLamp_67 ?_ ?_
          · first | exact Or.inl rfl | exact Or.inr rfl | exact b01_z _
          · refine ⟨?_, by with_reducible rfl⟩
            first
              | exact cI (b01_f (fun z => (b0_of e_is1 h39) z.1)).symm
              | exact cI (b01_f (fun z => (b01e.mp h49) z.2.1)).symm
              | exact cI (b01_f (fun z => (b01e.mp h59) z.2.2)).symm
              | exact cI (b01_t ⟨b1_of e_is1 h39, b01n.mp h49, b01n.mp h59⟩).symm
        · refine V_iconst hC (1) kX6_isLamp_62 (by decide) ?_
          refine V_goto hC 67 kX6_isLamp_63 (by decide) ?_
          refine V_iretz hC rfl kX6_isLamp_67 ?_ ?_
          · first | exact Or.inl rfl | exact Or.inr rfl | exact b01_z _
          · refine ⟨?_, by with_reducible rfl⟩
            first
              | exact cI (b01_f (fun z => (b0_of e_is1 h39) z.1)).symm
              | exact cI (b01_f (fun z => (b01e.mp h49) z.2.1)).symm
              | exact cI (b01_f (fun z => (b01e.mp h59) z.2.2)).symm
              | exact cI (b01_t ⟨b1_of e_is1 h39, b01n.mp h49, b01n.mp h59⟩).symm
  · refine V_iload_n hC kX6_isLamp_0 rfl ?_
    refine V_bipush hC (10) kX6_isLamp_1 (by decide) ?_
    refine V_bipush hC (99) kX6_isLamp_3 (by decide) ?_
    refine V_cS_fI hC (ct_in hWr _ _ _) mkX6_in lmX6_39 kX6_isLamp_5 rfl rfl (Nat.le_of_ble_eq_true rfl) ⟨(Nat.le_of_ble_eq_true rfl), (Nat.le_of_ble_eq_true rfl)⟩ ⟨rfl, rfl⟩ ⟨(Nat.le_of_ble_eq_true rfl), (Nat.le_of_ble_eq_true rfl)⟩ ?_
    refine V_if_eq hC 34 kX6_isLamp_8 (by decide) (fun h8 => ?_) (fun h8 => ?_)
    · refine V_iconst hC (0) kX6_isLamp_34 (by decide) ?_
      exact j35 _ ((b01_f (fun z => (b01e.mp h8) z.1)).symm)
    · refine V_iload_n hC kX6_isLamp_11 rfl ?_
      refine V_iconst hC (0) kX6_isLamp_12 (by decide) ?_
      refine V_iconst hC (2) kX6_isLamp_13 (by decide) ?_
      refine V_cS_fI hC (ct_in hWr _ _ _) mkX6_in lmX6_39 kX6_isLamp_14 rfl rfl (Nat.le_of_ble_eq_true rfl) ⟨(Nat.le_of_ble_eq_true rfl), (Nat.le_of_ble_eq_true rfl)⟩ ⟨rfl, rfl⟩ ⟨(Nat.le_of_ble_eq_true rfl), (Nat.le_of_ble_eq_true rfl)⟩ ?_
      refine V_if_eq hC 34 kX6_isLamp_17 (by decide) (fun h17 => ?_) (fun h17 => ?_)
      · refine V_iconst hC (0) kX6_isLamp_34 (by decide) ?_
        exact j35 _ ((b01_f (fun z => (b01e.mp h17) z.2.1)).symm)
      · refine V_iload_n hC kX6_isLamp_20 rfl ?_
        refine V_iconst hC (1) kX6_isLamp_21 (by decide) ?_
        refine V_bipush hC (20) kX6_isLamp_22 (by decide) ?_
        refine V_cS_fI hC (ct_in hWr _ _ _) mkX6_in lmX6_39 kX6_isLamp_24 rfl rfl (Nat.le_of_ble_eq_true rfl) ⟨(Nat.le_of_ble_eq_true rfl), (Nat.le_of_ble_eq_true rfl)⟩ ⟨rfl, rfl⟩ ⟨(Nat.le_of_ble_eq_true rfl), (Nat.le_of_ble_eq_true rfl)⟩ ?_
        refine V_if_eq hC 34 kX6_isLamp_27 (by decide) (fun h27 => ?_) (fun h27 => ?_)
        · refine V_iconst hC (0) kX6_isLamp_34 (by decide) ?_
          exact j35 _ ((b01_f (fun z => (b01e.mp h27) z.2.2)).symm)
        · refine V_iconst hC (1) kX6_isLamp_30 (by decide) ?_
          refine V_goto hC 35 kX6_isLamp_31 (by decide) ?_
          exact j35 _ ((b01_t ⟨b01n.mp h8, b01n.mp h17, b01n.mp h27⟩).symm)
def mtX6_addsLight : Mt := (yX6_addsLight, cX6_addsLight, 8, (some .int), 0, 0, 0, 0)
theorem kX6_addsLight_0 : Dk mtX6_addsLight 0 (.bipush 12) 2 2 := ⟨by decide +kernel, rfl⟩
theorem kX6_addsLight_2 : Dk mtX6_addsLight 2 (.bipush 8) 2 4 := ⟨by decide +kernel, rfl⟩
theorem kX6_addsLight_4 : Dk mtX6_addsLight 4 (.aload_n 0) 1 5 := ⟨by decide +kernel, rfl⟩
theorem kX6_addsLight_5 : Dk mtX6_addsLight 5 (.getfield 7) 3 8 := ⟨by decide +kernel, rfl⟩
theorem kX6_addsLight_8 : Dk mtX6_addsLight 8 (.iconst 4) 1 9 := ⟨by decide +kernel, rfl⟩
theorem kX6_addsLight_9 : Dk mtX6_addsLight 9 (.iaload) 1 10 := ⟨by decide +kernel, rfl⟩
theorem kX6_addsLight_10 : Dk mtX6_addsLight 10 (.imul) 1 11 := ⟨by decide +kernel, rfl⟩
theorem kX6_addsLight_11 : Dk mtX6_addsLight 11 (.iadd) 1 12 := ⟨by decide +kernel, rfl⟩
theorem kX6_addsLight_12 : Dk mtX6_addsLight 12 (.istore 7) 2 14 := ⟨by decide +kernel, rfl⟩
theorem kX6_addsLight_14 : Dk mtX6_addsLight 14 (.aload_n 0) 1 15 := ⟨by decide +kernel, rfl⟩
theorem kX6_addsLight_15 : Dk mtX6_addsLight 15 (.getfield 7) 3 18 := ⟨by decide +kernel, rfl⟩
theorem kX6_addsLight_18 : Dk mtX6_addsLight 18 (.iload 7) 2 20 := ⟨by decide +kernel, rfl⟩
theorem kX6_addsLight_20 : Dk mtX6_addsLight 20 (.iconst 0) 1 21 := ⟨by decide +kernel, rfl⟩
theorem kX6_addsLight_21 : Dk mtX6_addsLight 21 (.iadd) 1 22 := ⟨by decide +kernel, rfl⟩
theorem kX6_addsLight_22 : Dk mtX6_addsLight 22 (.iload_n 1) 1 23 := ⟨by decide +kernel, rfl⟩
theorem kX6_addsLight_23 : Dk mtX6_addsLight 23 (.iastore) 1 24 := ⟨by decide +kernel, rfl⟩
theorem kX6_addsLight_24 : Dk mtX6_addsLight 24 (.aload_n 0) 1 25 := ⟨by decide +kernel, rfl⟩
theorem kX6_addsLight_25 : Dk mtX6_addsLight 25 (.getfield 7) 3 28 := ⟨by decide +kernel, rfl⟩
theorem kX6_addsLight_28 : Dk mtX6_addsLight 28 (.iload 7) 2 30 := ⟨by decide +kernel, rfl⟩
theorem kX6_addsLight_30 : Dk mtX6_addsLight 30 (.iconst 1) 1 31 := ⟨by decide +kernel, rfl⟩
theorem kX6_addsLight_31 : Dk mtX6_addsLight 31 (.iadd) 1 32 := ⟨by decide +kernel, rfl⟩
theorem kX6_addsLight_32 : Dk mtX6_addsLight 32 (.iload_n 2) 1 33 := ⟨by decide +kernel, rfl⟩
theorem kX6_addsLight_33 : Dk mtX6_addsLight 33 (.iastore) 1 34 := ⟨by decide +kernel, rfl⟩
theorem kX6_addsLight_34 : Dk mtX6_addsLight 34 (.aload_n 0) 1 35 := ⟨by decide +kernel, rfl⟩
theorem kX6_addsLight_35 : Dk mtX6_addsLight 35 (.getfield 7) 3 38 := ⟨by decide +kernel, rfl⟩
theorem kX6_addsLight_38 : Dk mtX6_addsLight 38 (.iload 7) 2 40 := ⟨by decide +kernel, rfl⟩
theorem kX6_addsLight_40 : Dk mtX6_addsLight 40 (.iconst 2) 1 41 := ⟨by decide +kernel, rfl⟩
theorem kX6_addsLight_41 : Dk mtX6_addsLight 41 (.iadd) 1 42 := ⟨by decide +kernel, rfl⟩
theorem kX6_addsLight_42 : Dk mtX6_addsLight 42 (.iload_n 3) 1 43 := ⟨by decide +kernel, rfl⟩
theorem kX6_addsLight_43 : Dk mtX6_addsLight 43 (.iastore) 1 44 := ⟨by decide +kernel, rfl⟩
theorem kX6_addsLight_44 : Dk mtX6_addsLight 44 (.aload_n 0) 1 45 := ⟨by decide +kernel, rfl⟩
theorem kX6_addsLight_45 : Dk mtX6_addsLight 45 (.getfield 7) 3 48 := ⟨by decide +kernel, rfl⟩
theorem kX6_addsLight_48 : Dk mtX6_addsLight 48 (.iload 7) 2 50 := ⟨by decide +kernel, rfl⟩
theorem kX6_addsLight_50 : Dk mtX6_addsLight 50 (.iconst 3) 1 51 := ⟨by decide +kernel, rfl⟩
theorem kX6_addsLight_51 : Dk mtX6_addsLight 51 (.iadd) 1 52 := ⟨by decide +kernel, rfl⟩
theorem kX6_addsLight_52 : Dk mtX6_addsLight 52 (.iload 4) 2 54 := ⟨by decide +kernel, rfl⟩
theorem kX6_addsLight_54 : Dk mtX6_addsLight 54 (.iastore) 1 55 := ⟨by decide +kernel, rfl⟩
theorem kX6_addsLight_55 : Dk mtX6_addsLight 55 (.aload_n 0) 1 56 := ⟨by decide +kernel, rfl⟩
theorem kX6_addsLight_56 : Dk mtX6_addsLight 56 (.getfield 7) 3 59 := ⟨by decide +kernel, rfl⟩
theorem kX6_addsLight_59 : Dk mtX6_addsLight 59 (.iload 7) 2 61 := ⟨by decide +kernel, rfl⟩
theorem kX6_addsLight_61 : Dk mtX6_addsLight 61 (.iconst 4) 1 62 := ⟨by decide +kernel, rfl⟩
theorem kX6_addsLight_62 : Dk mtX6_addsLight 62 (.iadd) 1 63 := ⟨by decide +kernel, rfl⟩
theorem kX6_addsLight_63 : Dk mtX6_addsLight 63 (.iload 5) 2 65 := ⟨by decide +kernel, rfl⟩
theorem kX6_addsLight_65 : Dk mtX6_addsLight 65 (.iastore) 1 66 := ⟨by decide +kernel, rfl⟩
theorem kX6_addsLight_66 : Dk mtX6_addsLight 66 (.aload_n 0) 1 67 := ⟨by decide +kernel, rfl⟩
theorem kX6_addsLight_67 : Dk mtX6_addsLight 67 (.getfield 7) 3 70 := ⟨by decide +kernel, rfl⟩
theorem kX6_addsLight_70 : Dk mtX6_addsLight 70 (.iload 7) 2 72 := ⟨by decide +kernel, rfl⟩
theorem kX6_addsLight_72 : Dk mtX6_addsLight 72 (.iconst 5) 1 73 := ⟨by decide +kernel, rfl⟩
theorem kX6_addsLight_73 : Dk mtX6_addsLight 73 (.iadd) 1 74 := ⟨by decide +kernel, rfl⟩
theorem kX6_addsLight_74 : Dk mtX6_addsLight 74 (.iload 6) 2 76 := ⟨by decide +kernel, rfl⟩
theorem kX6_addsLight_76 : Dk mtX6_addsLight 76 (.iastore) 1 77 := ⟨by decide +kernel, rfl⟩
theorem kX6_addsLight_77 : Dk mtX6_addsLight 77 (.aload_n 0) 1 78 := ⟨by decide +kernel, rfl⟩
theorem kX6_addsLight_78 : Dk mtX6_addsLight 78 (.getfield 7) 3 81 := ⟨by decide +kernel, rfl⟩
theorem kX6_addsLight_81 : Dk mtX6_addsLight 81 (.iconst 4) 1 82 := ⟨by decide +kernel, rfl⟩
theorem kX6_addsLight_82 : Dk mtX6_addsLight 82 (.dup2) 1 83 := ⟨by decide +kernel, rfl⟩
theorem kX6_addsLight_83 : Dk mtX6_addsLight 83 (.iaload) 1 84 := ⟨by decide +kernel, rfl⟩
theorem kX6_addsLight_84 : Dk mtX6_addsLight 84 (.iconst 1) 1 85 := ⟨by decide +kernel, rfl⟩
theorem kX6_addsLight_85 : Dk mtX6_addsLight 85 (.iadd) 1 86 := ⟨by decide +kernel, rfl⟩
theorem kX6_addsLight_86 : Dk mtX6_addsLight 86 (.iastore) 1 87 := ⟨by decide +kernel, rfl⟩
theorem kX6_addsLight_87 : Dk mtX6_addsLight 87 (.aload_n 0) 1 88 := ⟨by decide +kernel, rfl⟩
theorem kX6_addsLight_88 : Dk mtX6_addsLight 88 (.getfield 7) 3 91 := ⟨by decide +kernel, rfl⟩
theorem kX6_addsLight_91 : Dk mtX6_addsLight 91 (.iconst 4) 1 92 := ⟨by decide +kernel, rfl⟩
theorem kX6_addsLight_92 : Dk mtX6_addsLight 92 (.iaload) 1 93 := ⟨by decide +kernel, rfl⟩
theorem kX6_addsLight_93 : Dk mtX6_addsLight 93 (.iconst 1) 1 94 := ⟨by decide +kernel, rfl⟩
theorem kX6_addsLight_94 : Dk mtX6_addsLight 94 (.isub) 1 95 := ⟨by decide +kernel, rfl⟩
theorem kX6_addsLight_95 : Dk mtX6_addsLight 95 (.ireturn) 1 96 := ⟨by decide +kernel, rfl⟩
set_option maxHeartbeats 4000000 in
set_option maxRecDepth 100000 in
theorem ct_addsLight {l : Launch} {w : Wd} {sg : Sg} (hWr : Wr w) {mo : Nat} (q st k n bo re : Int32) (hL4 : vp_in (sg (mo + 1) 4) 6) : M l mtX6_addsLight w [vR (some (6, 0, mo)), vI q, vI st, vI k, vI n, vI bo, vI re] sg (fI (F_addLight (sg (mo + 1)) q st k n bo re 4 - 1) (upr sg (mo + 1) (F_addLight (sg (mo + 1)) q st k n bo re))) := by
  refine M_of [some (vR (some (6, 0, mo))), some (vI q), some (vI st), some (vI k), some (vI n), some (vI bo), some (vI re), none] rfl (Nat.le_of_ble_eq_true rfl) (by decide +kernel) ?_
  intro p_ e_ s_ m_ args_ below_ meth_ c_ hC hO
  refine V_bipush hC (12) kX6_addsLight_0 (by decide) ?_
  refine V_bipush hC (8) kX6_addsLight_2 (by decide) ?_
  refine V_aload_n hC kX6_addsLight_4 rfl ?_
  refine V_getR hC hWr 6 1 lfX6_7 kX6_addsLight_5 (Nat.le_of_ble_eq_true rfl) (Nat.le_of_ble_eq_true rfl) rfl ?_
  refine V_iconst hC (4) kX6_addsLight_8 (by decide) ?_
  refine V_iald hC 4 rfl kX6_addsLight_9 (vp_lit rfl) ?_
  refine V_imul hC kX6_addsLight_10 ?_
  refine V_iadd hC kX6_addsLight_11 ?_
  refine V_nameI (fun fr e_fr => ?_)
  refine V_istore hC [some _, some _, some _, some _, some _, some _, some _, some _] kX6_addsLight_12 rfl (Nat.le_of_ble_eq_true rfl) ?_
  refine V_aload_n hC kX6_addsLight_14 rfl ?_
  refine V_getR hC hWr 6 1 lfX6_7 kX6_addsLight_15 (Nat.le_of_ble_eq_true rfl) (Nat.le_of_ble_eq_true rfl) rfl ?_
  refine V_iload hC kX6_addsLight_18 rfl ?_
  refine V_iconst hC (0) kX6_addsLight_20 (by decide) ?_
  refine V_iadd hC kX6_addsLight_21 ?_
  refine V_iload_n hC kX6_addsLight_22 rfl ?_
  refine V_iast hC _ rfl kX6_addsLight_23 (by rw [e_fr]; exact inL hL4 (vp_lit rfl)) ?_
  refine V_aload_n hC kX6_addsLight_24 rfl ?_
  refine V_getR hC hWr 6 1 lfX6_7 kX6_addsLight_25 (Nat.le_of_ble_eq_true rfl) (Nat.le_of_ble_eq_true rfl) rfl ?_
  refine V_iload hC kX6_addsLight_28 rfl ?_
  refine V_iconst hC (1) kX6_addsLight_30 (by decide) ?_
  refine V_iadd hC kX6_addsLight_31 ?_
  refine V_iload_n hC kX6_addsLight_32 rfl ?_
  refine V_iast hC _ rfl kX6_addsLight_33 (by rw [e_fr]; exact inL hL4 (vp_lit rfl)) ?_
  refine V_aload_n hC kX6_addsLight_34 rfl ?_
  refine V_getR hC hWr 6 1 lfX6_7 kX6_addsLight_35 (Nat.le_of_ble_eq_true rfl) (Nat.le_of_ble_eq_true rfl) rfl ?_
  refine V_iload hC kX6_addsLight_38 rfl ?_
  refine V_iconst hC (2) kX6_addsLight_40 (by decide) ?_
  refine V_iadd hC kX6_addsLight_41 ?_
  refine V_iload_n hC kX6_addsLight_42 rfl ?_
  refine V_iast hC _ rfl kX6_addsLight_43 (by rw [e_fr]; exact inL hL4 (vp_lit rfl)) ?_
  refine V_aload_n hC kX6_addsLight_44 rfl ?_
  refine V_getR hC hWr 6 1 lfX6_7 kX6_addsLight_45 (Nat.le_of_ble_eq_true rfl) (Nat.le_of_ble_eq_true rfl) rfl ?_
  refine V_iload hC kX6_addsLight_48 rfl ?_
  refine V_iconst hC (3) kX6_addsLight_50 (by decide) ?_
  refine V_iadd hC kX6_addsLight_51 ?_
  refine V_iload hC kX6_addsLight_52 rfl ?_
  refine V_iast hC _ rfl kX6_addsLight_54 (by rw [e_fr]; exact inL hL4 (vp_lit rfl)) ?_
  refine V_aload_n hC kX6_addsLight_55 rfl ?_
  refine V_getR hC hWr 6 1 lfX6_7 kX6_addsLight_56 (Nat.le_of_ble_eq_true rfl) (Nat.le_of_ble_eq_true rfl) rfl ?_
  refine V_iload hC kX6_addsLight_59 rfl ?_
  refine V_iconst hC (4) kX6_addsLight_61 (by decide) ?_
  refine V_iadd hC kX6_addsLight_62 ?_
  refine V_iload hC kX6_addsLight_63 rfl ?_
  refine V_iast hC _ rfl kX6_addsLight_65 (by rw [e_fr]; exact inL hL4 (vp_lit rfl)) ?_
  refine V_aload_n hC kX6_addsLight_66 rfl ?_
  refine V_getR hC hWr 6 1 lfX6_7 kX6_addsLight_67 (Nat.le_of_ble_eq_true rfl) (Nat.le_of_ble_eq_true rfl) rfl ?_
  refine V_iload hC kX6_addsLight_70 rfl ?_
  refine V_iconst hC (5) kX6_addsLight_72 (by decide) ?_
  refine V_iadd hC kX6_addsLight_73 ?_
  refine V_iload hC kX6_addsLight_74 rfl ?_
  refine V_iast hC _ rfl kX6_addsLight_76 (by rw [e_fr]; exact inL hL4 (vp_lit rfl)) ?_
  refine V_aload_n hC kX6_addsLight_77 rfl ?_
  refine V_getR hC hWr 6 1 lfX6_7 kX6_addsLight_78 (Nat.le_of_ble_eq_true rfl) (Nat.le_of_ble_eq_true rfl) rfl ?_
  refine V_iconst hC (4) kX6_addsLight_81 (by decide) ?_
  refine V_dup2 hC kX6_addsLight_82 rfl rfl ?_
  refine V_iald hC 4 rfl kX6_addsLight_83 (vp_lit rfl) ?_
  refine V_iconst hC (1) kX6_addsLight_84 (by decide) ?_
  refine V_iadd hC kX6_addsLight_85 ?_
  refine V_iast hC 4 rfl kX6_addsLight_86 (vp_lit rfl) ?_
  refine V_canon (upr sg (mo + 1) (F_addLight (sg (mo + 1)) q st k n bo re)) (by subst e_fr; simp only [upr_upr, upr_at, ups, F_addLight, F_inc, tn]) ?_
  refine V_aload_n hC kX6_addsLight_87 rfl ?_
  refine V_getR hC hWr 6 1 lfX6_7 kX6_addsLight_88 (Nat.le_of_ble_eq_true rfl) (Nat.le_of_ble_eq_true rfl) rfl ?_
  refine V_iconst hC (4) kX6_addsLight_91 (by decide) ?_
  refine V_iald hC 4 rfl kX6_addsLight_92 (vp_lit rfl) ?_
  refine V_iconst hC (1) kX6_addsLight_93 (by decide) ?_
  refine V_isub hC kX6_addsLight_94 ?_
  refine V_ireti hC rfl kX6_addsLight_95 ?_
  refine ⟨cI ?_, by with_reducible rfl⟩
  rw [upr_at]
def mtX6_actsLight : Mt := (yX6_actsLight, cX6_actsLight, 8, (some .int), 2, 47, 0, 0)
theorem kX6_actsLight_0 : Dk mtX6_actsLight 0 (.iload_n 1) 1 1 := ⟨by decide +kernel, rfl⟩
theorem kX6_actsLight_1 : Dk mtX6_actsLight 1 (.invokestatic 59) 3 4 := ⟨by decide +kernel, rfl⟩
theorem kX6_actsLight_4 : Dk mtX6_actsLight 4 (.ifCond .eq 32) 3 7 := ⟨by decide +kernel, rfl⟩
theorem kX6_actsLight_7 : Dk mtX6_actsLight 7 (.iload_n 2) 1 8 := ⟨by decide +kernel, rfl⟩
theorem kX6_actsLight_8 : Dk mtX6_actsLight 8 (.iload_n 3) 1 9 := ⟨by decide +kernel, rfl⟩
theorem kX6_actsLight_9 : Dk mtX6_actsLight 9 (.iload 4) 2 11 := ⟨by decide +kernel, rfl⟩
theorem kX6_actsLight_11 : Dk mtX6_actsLight 11 (.iload 5) 2 13 := ⟨by decide +kernel, rfl⟩
theorem kX6_actsLight_13 : Dk mtX6_actsLight 13 (.iload 6) 2 15 := ⟨by decide +kernel, rfl⟩
theorem kX6_actsLight_15 : Dk mtX6_actsLight 15 (.invokestatic 97) 3 18 := ⟨by decide +kernel, rfl⟩
theorem kX6_actsLight_18 : Dk mtX6_actsLight 18 (.ifCond .eq 18) 3 21 := ⟨by decide +kernel, rfl⟩
theorem kX6_actsLight_21 : Dk mtX6_actsLight 21 (.aload_n 0) 1 22 := ⟨by decide +kernel, rfl⟩
theorem kX6_actsLight_22 : Dk mtX6_actsLight 22 (.getfield 7) 3 25 := ⟨by decide +kernel, rfl⟩
theorem kX6_actsLight_25 : Dk mtX6_actsLight 25 (.iconst 4) 1 26 := ⟨by decide +kernel, rfl⟩
theorem kX6_actsLight_26 : Dk mtX6_actsLight 26 (.iaload) 1 27 := ⟨by decide +kernel, rfl⟩
theorem kX6_actsLight_27 : Dk mtX6_actsLight 27 (.bipush 6) 2 29 := ⟨by decide +kernel, rfl⟩
theorem kX6_actsLight_29 : Dk mtX6_actsLight 29 (.if_icmp .ge 7) 3 32 := ⟨by decide +kernel, rfl⟩
theorem kX6_actsLight_32 : Dk mtX6_actsLight 32 (.iconst 1) 1 33 := ⟨by decide +kernel, rfl⟩
theorem kX6_actsLight_33 : Dk mtX6_actsLight 33 (.goto 4) 3 36 := ⟨by decide +kernel, rfl⟩
theorem kX6_actsLight_36 : Dk mtX6_actsLight 36 (.iconst 0) 1 37 := ⟨by decide +kernel, rfl⟩
theorem kX6_actsLight_37 : Dk mtX6_actsLight 37 (.istore 7) 2 39 := ⟨by decide +kernel, rfl⟩
theorem kX6_actsLight_39 : Dk mtX6_actsLight 39 (.iload 7) 2 41 := ⟨by decide +kernel, rfl⟩
theorem kX6_actsLight_41 : Dk mtX6_actsLight 41 (.ifCond .eq 19) 3 44 := ⟨by decide +kernel, rfl⟩
theorem kX6_actsLight_44 : Dk mtX6_actsLight 44 (.aload_n 0) 1 45 := ⟨by decide +kernel, rfl⟩
theorem kX6_actsLight_45 : Dk mtX6_actsLight 45 (.iload_n 1) 1 46 := ⟨by decide +kernel, rfl⟩
theorem kX6_actsLight_46 : Dk mtX6_actsLight 46 (.iload_n 2) 1 47 := ⟨by decide +kernel, rfl⟩
theorem kX6_actsLight_47 : Dk mtX6_actsLight 47 (.iload_n 3) 1 48 := ⟨by decide +kernel, rfl⟩
theorem kX6_actsLight_48 : Dk mtX6_actsLight 48 (.iload 4) 2 50 := ⟨by decide +kernel, rfl⟩
theorem kX6_actsLight_50 : Dk mtX6_actsLight 50 (.iload 5) 2 52 := ⟨by decide +kernel, rfl⟩
theorem kX6_actsLight_52 : Dk mtX6_actsLight 52 (.iload 6) 2 54 := ⟨by decide +kernel, rfl⟩
theorem kX6_actsLight_54 : Dk mtX6_actsLight 54 (.invokevirtual 101) 3 57 := ⟨by decide +kernel, rfl⟩
theorem kX6_actsLight_57 : Dk mtX6_actsLight 57 (.goto 4) 3 60 := ⟨by decide +kernel, rfl⟩
theorem kX6_actsLight_60 : Dk mtX6_actsLight 60 (.iconst (-1)) 1 61 := ⟨by decide +kernel, rfl⟩
theorem kX6_actsLight_61 : Dk mtX6_actsLight 61 (.ireturn) 1 62 := ⟨by decide +kernel, rfl⟩
theorem lmX6_101 : LkM RX6 101 mtX6_addsLight := Or.inl (by decide +kernel)
theorem mkX6_addsLight : MkV mtX6_addsLight 6 := ⟨List.mem_of_getElem? (i := 1123) (by decide +kernel), by decide +kernel, by decide +kernel, by decide +kernel, ⟨by decide +kernel, by decide +kernel, by decide +kernel⟩⟩
theorem lmX6_97 : LkM RX6 97 mtX6_isLamp := Or.inl (by decide +kernel)
theorem mkX6_isLamp : MkS mtX6_isLamp 5 := ⟨List.mem_of_getElem? (i := 1119) (by decide +kernel), by decide +kernel, by decide +kernel, ⟨by decide +kernel, by decide +kernel, by decide +kernel⟩⟩
set_option maxHeartbeats 4000000 in
set_option maxRecDepth 100000 in
theorem ct_actsLight {l : Launch} {w : Wd} {sg : Sg} (hWr : Wr w) {mo : Nat} (q st k n bo re : Int32) (hc : 0 ≤ (sg (mo + 1) 4).toInt ∧ (sg (mo + 1) 4).toInt ≤ 6) : M l mtX6_actsLight w [vR (some (6, 0, mo)), vI q, vI st, vI k, vI n, vI bo, vI re] sg (fI (if cLight (sg (mo + 1)) q st k n bo re then F_addLight (sg (mo + 1)) q st k n bo re 4 - 1 else -1) (upr sg (mo + 1) (if cLight (sg (mo + 1)) q st k n bo re then F_addLight (sg (mo + 1)) q st k n bo re else (sg (mo + 1))))) := by
  refine M_of [some (vR (some (6, 0, mo))), some (vI q), some (vI st), some (vI k), some (vI n), some (vI bo), some (vI re), none] rfl (Nat.le_of_ble_eq_true rfl) (by decide +kernel) ?_
  intro p_ e_ s_ m_ args_ below_ meth_ c_ hC hO
  refine V_join 37 (b01 (cLight (sg (mo + 1)) q st k n bo re)) ?_ (fun j37 => ?_)
  · refine V_nameI (fun can e_can => ?_)
    refine V_istore hC [some _, some _, some _, some _, some _, some _, some _, some _] kX6_actsLight_37 rfl (Nat.le_of_ble_eq_true rfl) ?_
    refine V_iload hC kX6_actsLight_39 rfl ?_
    refine V_if_eq hC 60 kX6_actsLight_41 (by decide) (fun h41 => ?_) (fun h41 => ?_)
    · refine V_iconst hC (-1) kX6_actsLight_60 (by decide) ?_
      refine V_ireti hC rfl kX6_actsLight_61 ?_
      first
        | (have hn := b0_of e_can h41; refine ⟨cI ?_, ?_⟩; rw [if_neg hn]; rw [if_neg hn, upr_self])
        | (have hp := b1_of e_can h41; refine ⟨cI ?_, ?_⟩; rw [if_pos hp]; rw [if_pos hp])
    · refine V_aload_n hC kX6_actsLight_44 rfl ?_
      refine V_iload_n hC kX6_actsLight_45 rfl ?_
      refine V_iload_n hC kX6_actsLight_46 rfl ?_
      refine V_iload_n hC kX6_actsLight_47 rfl ?_
      refine V_iload hC kX6_actsLight_48 rfl ?_
      refine V_iload hC kX6_actsLight_50 rfl ?_
      refine V_iload hC kX6_actsLight_52 rfl ?_
      refine V_cV_fI hC (ct_addsLight hWr _ _ _ _ _ _ (lt6 hc.1 (b1_of e_can h41).2.2)) mkX6_addsLight lmX6_101 kX6_actsLight_54 (Nat.le_of_ble_eq_true rfl) rfl rfl rfl (Nat.le_of_ble_eq_true rfl) ⟨(Nat.le_of_ble_eq_true rfl), (Nat.le_of_ble_eq_true rfl)⟩ ⟨rfl, rfl⟩ ⟨(Nat.le_of_ble_eq_true rfl), (Nat.le_of_ble_eq_true rfl)⟩ ?_
      refine V_goto hC 61 kX6_actsLight_57 (by decide) ?_
      refine V_ireti hC rfl kX6_actsLight_61 ?_
      first
        | (have hn := b0_of e_can h41; refine ⟨cI ?_, ?_⟩; rw [if_neg hn]; rw [if_neg hn, upr_self])
        | (have hp := b1_of e_can h41; refine ⟨cI ?_, ?_⟩; rw [if_pos hp]; rw [if_pos hp])
  · refine V_iload_n hC kX6_actsLight_0 rfl ?_
    refine V_cS_fI hC (ct_isPlace hWr _) mkX6_isPlace lmX6_59 kX6_actsLight_1 rfl rfl (Nat.le_of_ble_eq_true rfl) ⟨(Nat.le_of_ble_eq_true rfl), (Nat.le_of_ble_eq_true rfl)⟩ ⟨rfl, rfl⟩ ⟨(Nat.le_of_ble_eq_true rfl), (Nat.le_of_ble_eq_true rfl)⟩ ?_
    refine V_if_eq hC 36 kX6_actsLight_4 (by decide) (fun h4 => ?_) (fun h4 => ?_)
    · refine V_iconst hC (0) kX6_actsLight_36 (by decide) ?_
      exact j37 _ ((b01_f (fun z => (b01e.mp h4) z.1)).symm)
    · refine V_iload_n hC kX6_actsLight_7 rfl ?_
      refine V_iload_n hC kX6_actsLight_8 rfl ?_
      refine V_iload hC kX6_actsLight_9 rfl ?_
      refine V_iload hC kX6_actsLight_11 rfl ?_
      refine V_iload hC kX6_actsLight_13 rfl ?_
      refine V_cS_fI hC (ct_isLamp hWr _ _ _ _ _) mkX6_isLamp lmX6_97 kX6_actsLight_15 rfl rfl (Nat.le_of_ble_eq_true rfl) ⟨(Nat.le_of_ble_eq_true rfl), (Nat.le_of_ble_eq_true rfl)⟩ ⟨rfl, rfl⟩ ⟨(Nat.le_of_ble_eq_true rfl), (Nat.le_of_ble_eq_true rfl)⟩ ?_
      refine V_if_eq hC 36 kX6_actsLight_18 (by decide) (fun h18 => ?_) (fun h18 => ?_)
      · refine V_iconst hC (0) kX6_actsLight_36 (by decide) ?_
        exact j37 _ ((b01_f (fun z => (b01e.mp h18) z.2.1)).symm)
      · refine V_aload_n hC kX6_actsLight_21 rfl ?_
        refine V_getR hC hWr 6 1 lfX6_7 kX6_actsLight_22 (Nat.le_of_ble_eq_true rfl) (Nat.le_of_ble_eq_true rfl) rfl ?_
        refine V_iconst hC (4) kX6_actsLight_25 (by decide) ?_
        refine V_iald hC 4 rfl kX6_actsLight_26 (vp_lit rfl) ?_
        refine V_bipush hC (6) kX6_actsLight_27 (by decide) ?_
        refine V_icmp_ge hC 36 kX6_actsLight_29 (by decide) (fun h29 => ?_) (fun h29 => ?_)
        · refine V_iconst hC (0) kX6_actsLight_36 (by decide) ?_
          exact j37 _ ((b01_f (fun z => absurd z.2.2 (Int32.not_lt.mpr h29))).symm)
        · refine V_iconst hC (1) kX6_actsLight_32 (by decide) ?_
          refine V_goto hC 37 kX6_actsLight_33 (by decide) ?_
          exact j37 _ ((b01_t ⟨b01n.mp h4, b01n.mp h18, Int32.not_le.mp h29⟩).symm)
def mtX6_addsBoat : Mt := (yX6_addsBoat, cX6_addsBoat, 4, (some .int), 1, 23, 0, 0)
theorem kX6_addsBoat_0 : Dk mtX6_addsBoat 0 (.aload_n 0) 1 1 := ⟨by decide +kernel, rfl⟩
theorem kX6_addsBoat_1 : Dk mtX6_addsBoat 1 (.getfield 7) 3 4 := ⟨by decide +kernel, rfl⟩
theorem kX6_addsBoat_4 : Dk mtX6_addsBoat 4 (.iconst 5) 1 5 := ⟨by decide +kernel, rfl⟩
theorem kX6_addsBoat_5 : Dk mtX6_addsBoat 5 (.iaload) 1 6 := ⟨by decide +kernel, rfl⟩
theorem kX6_addsBoat_6 : Dk mtX6_addsBoat 6 (.istore_n 3) 1 7 := ⟨by decide +kernel, rfl⟩
theorem kX6_addsBoat_7 : Dk mtX6_addsBoat 7 (.aload_n 0) 1 8 := ⟨by decide +kernel, rfl⟩
theorem kX6_addsBoat_8 : Dk mtX6_addsBoat 8 (.iload_n 3) 1 9 := ⟨by decide +kernel, rfl⟩
theorem kX6_addsBoat_9 : Dk mtX6_addsBoat 9 (.iconst 0) 1 10 := ⟨by decide +kernel, rfl⟩
theorem kX6_addsBoat_10 : Dk mtX6_addsBoat 10 (.iload_n 1) 1 11 := ⟨by decide +kernel, rfl⟩
theorem kX6_addsBoat_11 : Dk mtX6_addsBoat 11 (.invokevirtual 63) 3 14 := ⟨by decide +kernel, rfl⟩
theorem kX6_addsBoat_14 : Dk mtX6_addsBoat 14 (.aload_n 0) 1 15 := ⟨by decide +kernel, rfl⟩
theorem kX6_addsBoat_15 : Dk mtX6_addsBoat 15 (.iload_n 3) 1 16 := ⟨by decide +kernel, rfl⟩
theorem kX6_addsBoat_16 : Dk mtX6_addsBoat 16 (.iconst 1) 1 17 := ⟨by decide +kernel, rfl⟩
theorem kX6_addsBoat_17 : Dk mtX6_addsBoat 17 (.iload_n 2) 1 18 := ⟨by decide +kernel, rfl⟩
theorem kX6_addsBoat_18 : Dk mtX6_addsBoat 18 (.invokevirtual 63) 3 21 := ⟨by decide +kernel, rfl⟩
theorem kX6_addsBoat_21 : Dk mtX6_addsBoat 21 (.aload_n 0) 1 22 := ⟨by decide +kernel, rfl⟩
theorem kX6_addsBoat_22 : Dk mtX6_addsBoat 22 (.getfield 7) 3 25 := ⟨by decide +kernel, rfl⟩
theorem kX6_addsBoat_25 : Dk mtX6_addsBoat 25 (.iconst 5) 1 26 := ⟨by decide +kernel, rfl⟩
theorem kX6_addsBoat_26 : Dk mtX6_addsBoat 26 (.dup2) 1 27 := ⟨by decide +kernel, rfl⟩
theorem kX6_addsBoat_27 : Dk mtX6_addsBoat 27 (.iaload) 1 28 := ⟨by decide +kernel, rfl⟩
theorem kX6_addsBoat_28 : Dk mtX6_addsBoat 28 (.iconst 1) 1 29 := ⟨by decide +kernel, rfl⟩
theorem kX6_addsBoat_29 : Dk mtX6_addsBoat 29 (.iadd) 1 30 := ⟨by decide +kernel, rfl⟩
theorem kX6_addsBoat_30 : Dk mtX6_addsBoat 30 (.iastore) 1 31 := ⟨by decide +kernel, rfl⟩
theorem kX6_addsBoat_31 : Dk mtX6_addsBoat 31 (.iload_n 3) 1 32 := ⟨by decide +kernel, rfl⟩
theorem kX6_addsBoat_32 : Dk mtX6_addsBoat 32 (.ireturn) 1 33 := ⟨by decide +kernel, rfl⟩
set_option maxHeartbeats 4000000 in
set_option maxRecDepth 100000 in
theorem ct_addsBoat {l : Launch} {w : Wd} {sg : Sg} (hWr : Wr w) {mo : Nat} (q v : Int32) (hL5 : vp_in (sg (mo + 1) 5) 8) : M l mtX6_addsBoat w [vR (some (6, 0, mo)), vI q, vI v] sg (fI ((sg (mo + 1)) 5) (upr sg (mo + 1) (F_addBoat (sg (mo + 1)) q v))) := by
  refine M_of [some (vR (some (6, 0, mo))), some (vI q), some (vI v), none] rfl (Nat.le_of_ble_eq_true rfl) (by decide +kernel) ?_
  intro p_ e_ s_ m_ args_ below_ meth_ c_ hC hO
  refine V_aload_n hC kX6_addsBoat_0 rfl ?_
  refine V_getR hC hWr 6 1 lfX6_7 kX6_addsBoat_1 (Nat.le_of_ble_eq_true rfl) (Nat.le_of_ble_eq_true rfl) rfl ?_
  refine V_iconst hC (5) kX6_addsBoat_4 (by decide) ?_
  refine V_iald hC 5 rfl kX6_addsBoat_5 (vp_lit rfl) ?_
  refine V_nameI (fun b e_b => ?_)
  refine V_istore_n hC [some _, some _, some _, some _] kX6_addsBoat_6 rfl (Nat.le_of_ble_eq_true rfl) ?_
  refine V_aload_n hC kX6_addsBoat_7 rfl ?_
  refine V_iload_n hC kX6_addsBoat_8 rfl ?_
  refine V_iconst hC (0) kX6_addsBoat_9 (by decide) ?_
  refine V_iload_n hC kX6_addsBoat_10 rfl ?_
  refine V_cV_fV hC (ct_layBoat hWr b 0 q (by rw [e_b]; exact hL5) (vp_lit rfl)) mkX6_layBoat lmX6_63 kX6_addsBoat_11 (Nat.le_of_ble_eq_true rfl) rfl rfl rfl (Nat.le_of_ble_eq_true rfl) ⟨(Nat.le_of_ble_eq_true rfl), (Nat.le_of_ble_eq_true rfl)⟩ ⟨rfl, rfl⟩ ⟨(Nat.le_of_ble_eq_true rfl), (Nat.le_of_ble_eq_true rfl)⟩ ?_
  refine V_aload_n hC kX6_addsBoat_14 rfl ?_
  refine V_iload_n hC kX6_addsBoat_15 rfl ?_
  refine V_iconst hC (1) kX6_addsBoat_16 (by decide) ?_
  refine V_iload_n hC kX6_addsBoat_17 rfl ?_
  refine V_cV_fV hC (ct_layBoat hWr b 1 v (by rw [e_b]; exact hL5) (vp_lit rfl)) mkX6_layBoat lmX6_63 kX6_addsBoat_18 (Nat.le_of_ble_eq_true rfl) rfl rfl rfl (Nat.le_of_ble_eq_true rfl) ⟨(Nat.le_of_ble_eq_true rfl), (Nat.le_of_ble_eq_true rfl)⟩ ⟨rfl, rfl⟩ ⟨(Nat.le_of_ble_eq_true rfl), (Nat.le_of_ble_eq_true rfl)⟩ ?_
  refine V_aload_n hC kX6_addsBoat_21 rfl ?_
  refine V_getR hC hWr 6 1 lfX6_7 kX6_addsBoat_22 (Nat.le_of_ble_eq_true rfl) (Nat.le_of_ble_eq_true rfl) rfl ?_
  refine V_iconst hC (5) kX6_addsBoat_25 (by decide) ?_
  refine V_dup2 hC kX6_addsBoat_26 rfl rfl ?_
  refine V_iald hC 5 rfl kX6_addsBoat_27 (vp_lit rfl) ?_
  refine V_iconst hC (1) kX6_addsBoat_28 (by decide) ?_
  refine V_iadd hC kX6_addsBoat_29 ?_
  refine V_iast hC 5 rfl kX6_addsBoat_30 (vp_lit rfl) ?_
  refine V_iload_n hC kX6_addsBoat_31 rfl ?_
  refine V_ireti hC rfl kX6_addsBoat_32 ?_
  refine ⟨cI e_b, ?_⟩
  subst e_b
  simp only [upr_upr, upr_at, ups, F_addBoat, F_inc]
def mtX6_actsBoat : Mt := (yX6_actsBoat, cX6_actsBoat, 3, (some .int), 2, 46, 0, 0)
theorem kX6_actsBoat_0 : Dk mtX6_actsBoat 0 (.iload_n 1) 1 1 := ⟨by decide +kernel, rfl⟩
theorem kX6_actsBoat_1 : Dk mtX6_actsBoat 1 (.invokestatic 59) 3 4 := ⟨by decide +kernel, rfl⟩
theorem kX6_actsBoat_4 : Dk mtX6_actsBoat 4 (.ifCond .eq 34) 3 7 := ⟨by decide +kernel, rfl⟩
theorem kX6_actsBoat_7 : Dk mtX6_actsBoat 7 (.iload_n 2) 1 8 := ⟨by decide +kernel, rfl⟩
theorem kX6_actsBoat_8 : Dk mtX6_actsBoat 8 (.bipush (-6)) 2 10 := ⟨by decide +kernel, rfl⟩
theorem kX6_actsBoat_10 : Dk mtX6_actsBoat 10 (.bipush 6) 2 12 := ⟨by decide +kernel, rfl⟩
theorem kX6_actsBoat_12 : Dk mtX6_actsBoat 12 (.invokestatic 39) 3 15 := ⟨by decide +kernel, rfl⟩
theorem kX6_actsBoat_15 : Dk mtX6_actsBoat 15 (.ifCond .eq 23) 3 18 := ⟨by decide +kernel, rfl⟩
theorem kX6_actsBoat_18 : Dk mtX6_actsBoat 18 (.aload_n 0) 1 19 := ⟨by decide +kernel, rfl⟩
theorem kX6_actsBoat_19 : Dk mtX6_actsBoat 19 (.getfield 7) 3 22 := ⟨by decide +kernel, rfl⟩
theorem kX6_actsBoat_22 : Dk mtX6_actsBoat 22 (.iconst 5) 1 23 := ⟨by decide +kernel, rfl⟩
theorem kX6_actsBoat_23 : Dk mtX6_actsBoat 23 (.iaload) 1 24 := ⟨by decide +kernel, rfl⟩
theorem kX6_actsBoat_24 : Dk mtX6_actsBoat 24 (.bipush 8) 2 26 := ⟨by decide +kernel, rfl⟩
theorem kX6_actsBoat_26 : Dk mtX6_actsBoat 26 (.if_icmp .ge 12) 3 29 := ⟨by decide +kernel, rfl⟩
theorem kX6_actsBoat_29 : Dk mtX6_actsBoat 29 (.aload_n 0) 1 30 := ⟨by decide +kernel, rfl⟩
theorem kX6_actsBoat_30 : Dk mtX6_actsBoat 30 (.iload_n 1) 1 31 := ⟨by decide +kernel, rfl⟩
theorem kX6_actsBoat_31 : Dk mtX6_actsBoat 31 (.iload_n 2) 1 32 := ⟨by decide +kernel, rfl⟩
theorem kX6_actsBoat_32 : Dk mtX6_actsBoat 32 (.invokevirtual 105) 3 35 := ⟨by decide +kernel, rfl⟩
theorem kX6_actsBoat_35 : Dk mtX6_actsBoat 35 (.goto 4) 3 38 := ⟨by decide +kernel, rfl⟩
theorem kX6_actsBoat_38 : Dk mtX6_actsBoat 38 (.iconst (-1)) 1 39 := ⟨by decide +kernel, rfl⟩
theorem kX6_actsBoat_39 : Dk mtX6_actsBoat 39 (.ireturn) 1 40 := ⟨by decide +kernel, rfl⟩
theorem lmX6_105 : LkM RX6 105 mtX6_addsBoat := Or.inl (by decide +kernel)
theorem mkX6_addsBoat : MkV mtX6_addsBoat 2 := ⟨List.mem_of_getElem? (i := 1135) (by decide +kernel), by decide +kernel, by decide +kernel, by decide +kernel, ⟨by decide +kernel, by decide +kernel, by decide +kernel⟩⟩
set_option maxHeartbeats 4000000 in
set_option maxRecDepth 100000 in
theorem ct_actsBoat {l : Launch} {w : Wd} {sg : Sg} (hWr : Wr w) {mo : Nat} (q v : Int32) (hc : 0 ≤ (sg (mo + 1) 5).toInt ∧ (sg (mo + 1) 5).toInt ≤ 8) : M l mtX6_actsBoat w [vR (some (6, 0, mo)), vI q, vI v] sg (fI (if cBoat (sg (mo + 1)) q v then (sg (mo + 1)) 5 else -1) (upr sg (mo + 1) (if cBoat (sg (mo + 1)) q v then F_addBoat (sg (mo + 1)) q v else (sg (mo + 1))))) := by
  refine M_of [some (vR (some (6, 0, mo))), some (vI q), some (vI v)] rfl (Nat.le_of_ble_eq_true rfl) (by decide +kernel) ?_
  intro p_ e_ s_ m_ args_ below_ meth_ c_ hC hO
  refine V_iload_n hC kX6_actsBoat_0 rfl ?_
  refine V_cS_fI hC (ct_isPlace hWr _) mkX6_isPlace lmX6_59 kX6_actsBoat_1 rfl rfl (Nat.le_of_ble_eq_true rfl) ⟨(Nat.le_of_ble_eq_true rfl), (Nat.le_of_ble_eq_true rfl)⟩ ⟨rfl, rfl⟩ ⟨(Nat.le_of_ble_eq_true rfl), (Nat.le_of_ble_eq_true rfl)⟩ ?_
  refine V_if_eq hC 38 kX6_actsBoat_4 (by decide) (fun h4 => ?_) (fun h4 => ?_)
  · refine V_iconst hC (-1) kX6_actsBoat_38 (by decide) ?_
    refine V_ireti hC rfl kX6_actsBoat_39 ?_
    first
      | (have hn : ¬ cBoat (sg (mo + 1)) q v := fun z => (b01e.mp h4) z.1; refine ⟨cI ?_, ?_⟩; rw [if_neg hn]; rw [if_neg hn, upr_self])
      | (have hn : ¬ cBoat (sg (mo + 1)) q v := fun z => (b01e.mp h15) z.2.1; refine ⟨cI ?_, ?_⟩; rw [if_neg hn]; rw [if_neg hn, upr_self])
      | (have hn : ¬ cBoat (sg (mo + 1)) q v := fun z => absurd z.2.2 (Int32.not_lt.mpr h26); refine ⟨cI ?_, ?_⟩; rw [if_neg hn]; rw [if_neg hn, upr_self])
      | (have hp : cBoat (sg (mo + 1)) q v := ⟨b01n.mp h4, b01n.mp h15, Int32.not_le.mp h26⟩; refine ⟨cI ?_, ?_⟩; rw [if_pos hp]; rw [if_pos hp])
  · refine V_iload_n hC kX6_actsBoat_7 rfl ?_
    refine V_bipush hC (-6) kX6_actsBoat_8 (by decide) ?_
    refine V_bipush hC (6) kX6_actsBoat_10 (by decide) ?_
    refine V_cS_fI hC (ct_in hWr _ _ _) mkX6_in lmX6_39 kX6_actsBoat_12 rfl rfl (Nat.le_of_ble_eq_true rfl) ⟨(Nat.le_of_ble_eq_true rfl), (Nat.le_of_ble_eq_true rfl)⟩ ⟨rfl, rfl⟩ ⟨(Nat.le_of_ble_eq_true rfl), (Nat.le_of_ble_eq_true rfl)⟩ ?_
    refine V_if_eq hC 38 kX6_actsBoat_15 (by decide) (fun h15 => ?_) (fun h15 => ?_)
    · refine V_iconst hC (-1) kX6_actsBoat_38 (by decide) ?_
      refine V_ireti hC rfl kX6_actsBoat_39 ?_
      first
        | (have hn : ¬ cBoat (sg (mo + 1)) q v := fun z => (b01e.mp h4) z.1; refine ⟨cI ?_, ?_⟩; rw [if_neg hn]; rw [if_neg hn, upr_self])
        | (have hn : ¬ cBoat (sg (mo + 1)) q v := fun z => (b01e.mp h15) z.2.1; refine ⟨cI ?_, ?_⟩; rw [if_neg hn]; rw [if_neg hn, upr_self])
        | (have hn : ¬ cBoat (sg (mo + 1)) q v := fun z => absurd z.2.2 (Int32.not_lt.mpr h26); refine ⟨cI ?_, ?_⟩; rw [if_neg hn]; rw [if_neg hn, upr_self])
        | (have hp : cBoat (sg (mo + 1)) q v := ⟨b01n.mp h4, b01n.mp h15, Int32.not_le.mp h26⟩; refine ⟨cI ?_, ?_⟩; rw [if_pos hp]; rw [if_pos hp])
    · refine V_aload_n hC kX6_actsBoat_18 rfl ?_
      refine V_getR hC hWr 6 1 lfX6_7 kX6_actsBoat_19 (Nat.le_of_ble_eq_true rfl) (Nat.le_of_ble_eq_true rfl) rfl ?_
      refine V_iconst hC (5) kX6_actsBoat_22 (by decide) ?_
      refine V_iald hC 5 rfl kX6_actsBoat_23 (vp_lit rfl) ?_
      refine V_bipush hC (8) kX6_actsBoat_24 (by decide) ?_
      refine V_icmp_ge hC 38 kX6_actsBoat_26 (by decide) (fun h26 => ?_) (fun h26 => ?_)
      · refine V_iconst hC (-1) kX6_actsBoat_38 (by decide) ?_
        refine V_ireti hC rfl kX6_actsBoat_39 ?_
        first
          | (have hn : ¬ cBoat (sg (mo + 1)) q v := fun z => (b01e.mp h4) z.1; refine ⟨cI ?_, ?_⟩; rw [if_neg hn]; rw [if_neg hn, upr_self])
          | (have hn : ¬ cBoat (sg (mo + 1)) q v := fun z => (b01e.mp h15) z.2.1; refine ⟨cI ?_, ?_⟩; rw [if_neg hn]; rw [if_neg hn, upr_self])
          | (have hn : ¬ cBoat (sg (mo + 1)) q v := fun z => absurd z.2.2 (Int32.not_lt.mpr h26); refine ⟨cI ?_, ?_⟩; rw [if_neg hn]; rw [if_neg hn, upr_self])
          | (have hp : cBoat (sg (mo + 1)) q v := ⟨b01n.mp h4, b01n.mp h15, Int32.not_le.mp h26⟩; refine ⟨cI ?_, ?_⟩; rw [if_pos hp]; rw [if_pos hp])
      · refine V_aload_n hC kX6_actsBoat_29 rfl ?_
        refine V_iload_n hC kX6_actsBoat_30 rfl ?_
        refine V_iload_n hC kX6_actsBoat_31 rfl ?_
        refine V_cV_fI hC (ct_addsBoat hWr _ _ (lt8 hc.1 (Int32.not_le.mp h26))) mkX6_addsBoat lmX6_105 kX6_actsBoat_32 (Nat.le_of_ble_eq_true rfl) rfl rfl rfl (Nat.le_of_ble_eq_true rfl) ⟨(Nat.le_of_ble_eq_true rfl), (Nat.le_of_ble_eq_true rfl)⟩ ⟨rfl, rfl⟩ ⟨(Nat.le_of_ble_eq_true rfl), (Nat.le_of_ble_eq_true rfl)⟩ ?_
        refine V_goto hC 39 kX6_actsBoat_35 (by decide) ?_
        refine V_ireti hC rfl kX6_actsBoat_39 ?_
        first
          | (have hn : ¬ cBoat (sg (mo + 1)) q v := fun z => (b01e.mp h4) z.1; refine ⟨cI ?_, ?_⟩; rw [if_neg hn]; rw [if_neg hn, upr_self])
          | (have hn : ¬ cBoat (sg (mo + 1)) q v := fun z => (b01e.mp h15) z.2.1; refine ⟨cI ?_, ?_⟩; rw [if_neg hn]; rw [if_neg hn, upr_self])
          | (have hn : ¬ cBoat (sg (mo + 1)) q v := fun z => absurd z.2.2 (Int32.not_lt.mpr h26); refine ⟨cI ?_, ?_⟩; rw [if_neg hn]; rw [if_neg hn, upr_self])
          | (have hp : cBoat (sg (mo + 1)) q v := ⟨b01n.mp h4, b01n.mp h15, Int32.not_le.mp h26⟩; refine ⟨cI ?_, ?_⟩; rw [if_pos hp]; rw [if_pos hp])
def mtX6_actsSteer : Mt := (yX6_actsSteer, cX6_actsSteer, 4, (some .int), 2, 43, 0, 0)
theorem kX6_actsSteer_0 : Dk mtX6_actsSteer 0 (.aload_n 0) 1 1 := ⟨by decide +kernel, rfl⟩
theorem kX6_actsSteer_1 : Dk mtX6_actsSteer 1 (.iload_n 1) 1 2 := ⟨by decide +kernel, rfl⟩
theorem kX6_actsSteer_2 : Dk mtX6_actsSteer 2 (.invokevirtual 108) 3 5 := ⟨by decide +kernel, rfl⟩
theorem kX6_actsSteer_5 : Dk mtX6_actsSteer 5 (.ifCond .eq 18) 3 8 := ⟨by decide +kernel, rfl⟩
theorem kX6_actsSteer_8 : Dk mtX6_actsSteer 8 (.iload_n 2) 1 9 := ⟨by decide +kernel, rfl⟩
theorem kX6_actsSteer_9 : Dk mtX6_actsSteer 9 (.bipush (-6)) 2 11 := ⟨by decide +kernel, rfl⟩
theorem kX6_actsSteer_11 : Dk mtX6_actsSteer 11 (.bipush 6) 2 13 := ⟨by decide +kernel, rfl⟩
theorem kX6_actsSteer_13 : Dk mtX6_actsSteer 13 (.invokestatic 39) 3 16 := ⟨by decide +kernel, rfl⟩
theorem kX6_actsSteer_16 : Dk mtX6_actsSteer 16 (.ifCond .eq 7) 3 19 := ⟨by decide +kernel, rfl⟩
theorem kX6_actsSteer_19 : Dk mtX6_actsSteer 19 (.iconst 1) 1 20 := ⟨by decide +kernel, rfl⟩
theorem kX6_actsSteer_20 : Dk mtX6_actsSteer 20 (.goto 4) 3 23 := ⟨by decide +kernel, rfl⟩
theorem kX6_actsSteer_23 : Dk mtX6_actsSteer 23 (.iconst 0) 1 24 := ⟨by decide +kernel, rfl⟩
theorem kX6_actsSteer_24 : Dk mtX6_actsSteer 24 (.istore_n 3) 1 25 := ⟨by decide +kernel, rfl⟩
theorem kX6_actsSteer_25 : Dk mtX6_actsSteer 25 (.iload_n 3) 1 26 := ⟨by decide +kernel, rfl⟩
theorem kX6_actsSteer_26 : Dk mtX6_actsSteer 26 (.ifCond .eq 10) 3 29 := ⟨by decide +kernel, rfl⟩
theorem kX6_actsSteer_29 : Dk mtX6_actsSteer 29 (.aload_n 0) 1 30 := ⟨by decide +kernel, rfl⟩
theorem kX6_actsSteer_30 : Dk mtX6_actsSteer 30 (.iload_n 1) 1 31 := ⟨by decide +kernel, rfl⟩
theorem kX6_actsSteer_31 : Dk mtX6_actsSteer 31 (.iconst 1) 1 32 := ⟨by decide +kernel, rfl⟩
theorem kX6_actsSteer_32 : Dk mtX6_actsSteer 32 (.iload_n 2) 1 33 := ⟨by decide +kernel, rfl⟩
theorem kX6_actsSteer_33 : Dk mtX6_actsSteer 33 (.invokevirtual 63) 3 36 := ⟨by decide +kernel, rfl⟩
theorem kX6_actsSteer_36 : Dk mtX6_actsSteer 36 (.iload_n 3) 1 37 := ⟨by decide +kernel, rfl⟩
theorem kX6_actsSteer_37 : Dk mtX6_actsSteer 37 (.ifCond .eq 7) 3 40 := ⟨by decide +kernel, rfl⟩
theorem kX6_actsSteer_40 : Dk mtX6_actsSteer 40 (.iconst 0) 1 41 := ⟨by decide +kernel, rfl⟩
theorem kX6_actsSteer_41 : Dk mtX6_actsSteer 41 (.goto 4) 3 44 := ⟨by decide +kernel, rfl⟩
theorem kX6_actsSteer_44 : Dk mtX6_actsSteer 44 (.iconst (-1)) 1 45 := ⟨by decide +kernel, rfl⟩
theorem kX6_actsSteer_45 : Dk mtX6_actsSteer 45 (.ireturn) 1 46 := ⟨by decide +kernel, rfl⟩
theorem lmX6_108 : LkM RX6 108 mtX6_isBoat := Or.inl (by decide +kernel)
theorem mkX6_isBoat : MkV mtX6_isBoat 1 := ⟨List.mem_of_getElem? (i := 1147) (by decide +kernel), by decide +kernel, by decide +kernel, by decide +kernel, ⟨by decide +kernel, by decide +kernel, by decide +kernel⟩⟩
set_option maxHeartbeats 4000000 in
set_option maxRecDepth 100000 in
theorem ct_actsSteer {l : Launch} {w : Wd} {sg : Sg} (hWr : Wr w) {mo : Nat} (b v : Int32) (hc : 0 ≤ (sg (mo + 1) 5).toInt ∧ (sg (mo + 1) 5).toInt ≤ 8) : M l mtX6_actsSteer w [vR (some (6, 0, mo)), vI b, vI v] sg (fI (if cSteer (sg (mo + 1)) b v then 0 else -1) (upr sg (mo + 1) (if cSteer (sg (mo + 1)) b v then pB (sg (mo + 1)) b 1 v else (sg (mo + 1))))) := by
  refine M_of [some (vR (some (6, 0, mo))), some (vI b), some (vI v), none] rfl (Nat.le_of_ble_eq_true rfl) (by decide +kernel) ?_
  intro p_ e_ s_ m_ args_ below_ meth_ c_ hC hO
  refine V_join 24 (b01 (cSteer (sg (mo + 1)) b v)) ?_ (fun j24 => ?_)
  · refine V_nameI (fun can e_can => ?_)
    refine V_istore_n hC [some _, some _, some _, some _] kX6_actsSteer_24 rfl (Nat.le_of_ble_eq_true rfl) ?_
    refine V_iload_n hC kX6_actsSteer_25 rfl ?_
    refine V_if_eq hC 36 kX6_actsSteer_26 (by decide) (fun h26 => ?_) (fun h26 => ?_)
    · refine V_iload_n hC kX6_actsSteer_36 rfl ?_
      refine V_if_eq hC 44 kX6_actsSteer_37 (by decide) (fun h37 => ?_) (fun h37 => absurd h37 (not_not_intro h26))
      refine V_iconst hC (-1) kX6_actsSteer_44 (by decide) ?_
      refine V_ireti hC rfl kX6_actsSteer_45 ?_
      first
        | (have hn := b0_of e_can h26; refine ⟨cI ?_, ?_⟩; rw [if_neg hn]; rw [if_neg hn, upr_self])
        | (have hp := b1_of e_can h26; refine ⟨cI ?_, ?_⟩; rw [if_pos hp]; rw [if_pos hp])
    · refine V_aload_n hC kX6_actsSteer_29 rfl ?_
      refine V_iload_n hC kX6_actsSteer_30 rfl ?_
      refine V_iconst hC (1) kX6_actsSteer_31 (by decide) ?_
      refine V_iload_n hC kX6_actsSteer_32 rfl ?_
      refine V_cV_fV hC (ct_layBoat hWr b 1 v (vpB hc (b1_of e_can h26).1) (vp_lit rfl)) mkX6_layBoat lmX6_63 kX6_actsSteer_33 (Nat.le_of_ble_eq_true rfl) rfl rfl rfl (Nat.le_of_ble_eq_true rfl) ⟨(Nat.le_of_ble_eq_true rfl), (Nat.le_of_ble_eq_true rfl)⟩ ⟨rfl, rfl⟩ ⟨(Nat.le_of_ble_eq_true rfl), (Nat.le_of_ble_eq_true rfl)⟩ ?_
      refine V_iload_n hC kX6_actsSteer_36 rfl ?_
      refine V_if_eq hC 44 kX6_actsSteer_37 (by decide) (fun h37 => absurd h37 h26) (fun h37 => ?_)
      refine V_iconst hC (0) kX6_actsSteer_40 (by decide) ?_
      refine V_goto hC 45 kX6_actsSteer_41 (by decide) ?_
      refine V_ireti hC rfl kX6_actsSteer_45 ?_
      first
        | (have hn := b0_of e_can h26; refine ⟨cI ?_, ?_⟩; rw [if_neg hn]; rw [if_neg hn, upr_self])
        | (have hp := b1_of e_can h26; refine ⟨cI ?_, ?_⟩; rw [if_pos hp]; rw [if_pos hp])
  · refine V_aload_n hC kX6_actsSteer_0 rfl ?_
    refine V_iload_n hC kX6_actsSteer_1 rfl ?_
    refine V_cV_fI hC (ct_isBoat hWr _) mkX6_isBoat lmX6_108 kX6_actsSteer_2 (Nat.le_of_ble_eq_true rfl) rfl rfl rfl (Nat.le_of_ble_eq_true rfl) ⟨(Nat.le_of_ble_eq_true rfl), (Nat.le_of_ble_eq_true rfl)⟩ ⟨rfl, rfl⟩ ⟨(Nat.le_of_ble_eq_true rfl), (Nat.le_of_ble_eq_true rfl)⟩ ?_
    refine V_if_eq hC 23 kX6_actsSteer_5 (by decide) (fun h5 => ?_) (fun h5 => ?_)
    · refine V_iconst hC (0) kX6_actsSteer_23 (by decide) ?_
      exact j24 _ ((b01_f (fun z => (b01e.mp h5) z.1)).symm)
    · refine V_iload_n hC kX6_actsSteer_8 rfl ?_
      refine V_bipush hC (-6) kX6_actsSteer_9 (by decide) ?_
      refine V_bipush hC (6) kX6_actsSteer_11 (by decide) ?_
      refine V_cS_fI hC (ct_in hWr _ _ _) mkX6_in lmX6_39 kX6_actsSteer_13 rfl rfl (Nat.le_of_ble_eq_true rfl) ⟨(Nat.le_of_ble_eq_true rfl), (Nat.le_of_ble_eq_true rfl)⟩ ⟨rfl, rfl⟩ ⟨(Nat.le_of_ble_eq_true rfl), (Nat.le_of_ble_eq_true rfl)⟩ ?_
      refine V_if_eq hC 23 kX6_actsSteer_16 (by decide) (fun h16 => ?_) (fun h16 => ?_)
      · refine V_iconst hC (0) kX6_actsSteer_23 (by decide) ?_
        exact j24 _ ((b01_f (fun z => (b01e.mp h16) z.2)).symm)
      · refine V_iconst hC (1) kX6_actsSteer_19 (by decide) ?_
        refine V_goto hC 24 kX6_actsSteer_20 (by decide) ?_
        exact j24 _ ((b01_t ⟨b01n.mp h5, b01n.mp h16⟩).symm)
def mtX6_canTalk : Mt := (yX6_canTalk, cX6_canTalk, 2, (some .boolean), 1, 22, 0, 0)
theorem kX6_canTalk_0 : Dk mtX6_canTalk 0 (.aload_n 0) 1 1 := ⟨by decide +kernel, rfl⟩
theorem kX6_canTalk_1 : Dk mtX6_canTalk 1 (.iload_n 1) 1 2 := ⟨by decide +kernel, rfl⟩
theorem kX6_canTalk_2 : Dk mtX6_canTalk 2 (.iconst 2) 1 3 := ⟨by decide +kernel, rfl⟩
theorem kX6_canTalk_3 : Dk mtX6_canTalk 3 (.invokevirtual 53) 3 6 := ⟨by decide +kernel, rfl⟩
theorem kX6_canTalk_6 : Dk mtX6_canTalk 6 (.ifCond .le 7) 3 9 := ⟨by decide +kernel, rfl⟩
theorem kX6_canTalk_9 : Dk mtX6_canTalk 9 (.iconst 1) 1 10 := ⟨by decide +kernel, rfl⟩
theorem kX6_canTalk_10 : Dk mtX6_canTalk 10 (.goto 4) 3 13 := ⟨by decide +kernel, rfl⟩
theorem kX6_canTalk_13 : Dk mtX6_canTalk 13 (.iconst 0) 1 14 := ⟨by decide +kernel, rfl⟩
theorem kX6_canTalk_14 : Dk mtX6_canTalk 14 (.ireturn) 1 15 := ⟨by decide +kernel, rfl⟩
set_option maxHeartbeats 4000000 in
set_option maxRecDepth 100000 in
theorem ct_canTalk {l : Launch} {w : Wd} {sg : Sg} (hWr : Wr w) {mo : Nat} (a : Int32) (ha : vp_in a 8) : M l mtX6_canTalk w [vR (some (6, 0, mo)), vI a] sg (fI (b01 (0 < gB (sg (mo + 1)) a 2)) sg) := by
  refine M_of [some (vR (some (6, 0, mo))), some (vI a)] rfl (Nat.le_of_ble_eq_true rfl) (by decide +kernel) ?_
  intro p_ e_ s_ m_ args_ below_ meth_ c_ hC hO
  refine V_aload_n hC kX6_canTalk_0 rfl ?_
  refine V_iload_n hC kX6_canTalk_1 rfl ?_
  refine V_iconst hC (2) kX6_canTalk_2 (by decide) ?_
  refine V_cV_fI hC (ct_ofBoat hWr a 2 ha (vp_lit rfl)) mkX6_ofBoat lmX6_53 kX6_canTalk_3 (Nat.le_of_ble_eq_true rfl) rfl rfl rfl (Nat.le_of_ble_eq_true rfl) ⟨(Nat.le_of_ble_eq_true rfl), (Nat.le_of_ble_eq_true rfl)⟩ ⟨rfl, rfl⟩ ⟨(Nat.le_of_ble_eq_true rfl), (Nat.le_of_ble_eq_true rfl)⟩ ?_
  refine V_if_le hC 13 kX6_canTalk_6 (by decide) (fun h6 => ?_) (fun h6 => ?_)
  · refine V_iconst hC (0) kX6_canTalk_13 (by decide) ?_
    refine V_iretz hC rfl kX6_canTalk_14 ?_ ?_
    · first | exact Or.inl rfl | exact Or.inr rfl | exact b01_z _
    · refine ⟨?_, by with_reducible rfl⟩
      first | exact cI (b01_f (Int32.not_lt.mpr h6)).symm | exact cI (b01_t (Int32.not_le.mp h6)).symm
  · refine V_iconst hC (1) kX6_canTalk_9 (by decide) ?_
    refine V_goto hC 14 kX6_canTalk_10 (by decide) ?_
    refine V_iretz hC rfl kX6_canTalk_14 ?_ ?_
    · first | exact Or.inl rfl | exact Or.inr rfl | exact b01_z _
    · refine ⟨?_, by with_reducible rfl⟩
      first | exact cI (b01_f (Int32.not_lt.mpr h6)).symm | exact cI (b01_t (Int32.not_le.mp h6)).symm
def mtX6_actsTalk : Mt := (yX6_actsTalk, cX6_actsTalk, 4, (some .int), 2, 43, 0, 0)
theorem kX6_actsTalk_0 : Dk mtX6_actsTalk 0 (.aload_n 0) 1 1 := ⟨by decide +kernel, rfl⟩
theorem kX6_actsTalk_1 : Dk mtX6_actsTalk 1 (.iload_n 1) 1 2 := ⟨by decide +kernel, rfl⟩
theorem kX6_actsTalk_2 : Dk mtX6_actsTalk 2 (.invokevirtual 108) 3 5 := ⟨by decide +kernel, rfl⟩
theorem kX6_actsTalk_5 : Dk mtX6_actsTalk 5 (.ifCond .eq 25) 3 8 := ⟨by decide +kernel, rfl⟩
theorem kX6_actsTalk_8 : Dk mtX6_actsTalk 8 (.iload_n 2) 1 9 := ⟨by decide +kernel, rfl⟩
theorem kX6_actsTalk_9 : Dk mtX6_actsTalk 9 (.iconst 1) 1 10 := ⟨by decide +kernel, rfl⟩
theorem kX6_actsTalk_10 : Dk mtX6_actsTalk 10 (.bipush 99) 2 12 := ⟨by decide +kernel, rfl⟩
theorem kX6_actsTalk_12 : Dk mtX6_actsTalk 12 (.invokestatic 39) 3 15 := ⟨by decide +kernel, rfl⟩
theorem kX6_actsTalk_15 : Dk mtX6_actsTalk 15 (.ifCond .eq 15) 3 18 := ⟨by decide +kernel, rfl⟩
theorem kX6_actsTalk_18 : Dk mtX6_actsTalk 18 (.aload_n 0) 1 19 := ⟨by decide +kernel, rfl⟩
theorem kX6_actsTalk_19 : Dk mtX6_actsTalk 19 (.iload_n 1) 1 20 := ⟨by decide +kernel, rfl⟩
theorem kX6_actsTalk_20 : Dk mtX6_actsTalk 20 (.invokevirtual 111) 3 23 := ⟨by decide +kernel, rfl⟩
theorem kX6_actsTalk_23 : Dk mtX6_actsTalk 23 (.ifCond .eq 7) 3 26 := ⟨by decide +kernel, rfl⟩
theorem kX6_actsTalk_26 : Dk mtX6_actsTalk 26 (.iconst 1) 1 27 := ⟨by decide +kernel, rfl⟩
theorem kX6_actsTalk_27 : Dk mtX6_actsTalk 27 (.goto 4) 3 30 := ⟨by decide +kernel, rfl⟩
theorem kX6_actsTalk_30 : Dk mtX6_actsTalk 30 (.iconst 0) 1 31 := ⟨by decide +kernel, rfl⟩
theorem kX6_actsTalk_31 : Dk mtX6_actsTalk 31 (.istore_n 3) 1 32 := ⟨by decide +kernel, rfl⟩
theorem kX6_actsTalk_32 : Dk mtX6_actsTalk 32 (.iload_n 3) 1 33 := ⟨by decide +kernel, rfl⟩
theorem kX6_actsTalk_33 : Dk mtX6_actsTalk 33 (.ifCond .eq 10) 3 36 := ⟨by decide +kernel, rfl⟩
theorem kX6_actsTalk_36 : Dk mtX6_actsTalk 36 (.aload_n 0) 1 37 := ⟨by decide +kernel, rfl⟩
theorem kX6_actsTalk_37 : Dk mtX6_actsTalk 37 (.iload_n 1) 1 38 := ⟨by decide +kernel, rfl⟩
theorem kX6_actsTalk_38 : Dk mtX6_actsTalk 38 (.iconst 3) 1 39 := ⟨by decide +kernel, rfl⟩
theorem kX6_actsTalk_39 : Dk mtX6_actsTalk 39 (.iload_n 2) 1 40 := ⟨by decide +kernel, rfl⟩
theorem kX6_actsTalk_40 : Dk mtX6_actsTalk 40 (.invokevirtual 63) 3 43 := ⟨by decide +kernel, rfl⟩
theorem kX6_actsTalk_43 : Dk mtX6_actsTalk 43 (.iload_n 3) 1 44 := ⟨by decide +kernel, rfl⟩
theorem kX6_actsTalk_44 : Dk mtX6_actsTalk 44 (.ifCond .eq 7) 3 47 := ⟨by decide +kernel, rfl⟩
theorem kX6_actsTalk_47 : Dk mtX6_actsTalk 47 (.iconst 0) 1 48 := ⟨by decide +kernel, rfl⟩
theorem kX6_actsTalk_48 : Dk mtX6_actsTalk 48 (.goto 4) 3 51 := ⟨by decide +kernel, rfl⟩
theorem kX6_actsTalk_51 : Dk mtX6_actsTalk 51 (.iconst (-1)) 1 52 := ⟨by decide +kernel, rfl⟩
theorem kX6_actsTalk_52 : Dk mtX6_actsTalk 52 (.ireturn) 1 53 := ⟨by decide +kernel, rfl⟩
theorem lmX6_111 : LkM RX6 111 mtX6_canTalk := Or.inl (by decide +kernel)
theorem mkX6_canTalk : MkV mtX6_canTalk 1 := ⟨List.mem_of_getElem? (i := 1155) (by decide +kernel), by decide +kernel, by decide +kernel, by decide +kernel, ⟨by decide +kernel, by decide +kernel, by decide +kernel⟩⟩
set_option maxHeartbeats 4000000 in
set_option maxRecDepth 100000 in
theorem ct_actsTalk {l : Launch} {w : Wd} {sg : Sg} (hWr : Wr w) {mo : Nat} (b v : Int32) (hc : 0 ≤ (sg (mo + 1) 5).toInt ∧ (sg (mo + 1) 5).toInt ≤ 8) : M l mtX6_actsTalk w [vR (some (6, 0, mo)), vI b, vI v] sg (fI (if cTalk (sg (mo + 1)) b v then 0 else -1) (upr sg (mo + 1) (if cTalk (sg (mo + 1)) b v then pB (sg (mo + 1)) b 3 v else (sg (mo + 1))))) := by
  refine M_of [some (vR (some (6, 0, mo))), some (vI b), some (vI v), none] rfl (Nat.le_of_ble_eq_true rfl) (by decide +kernel) ?_
  intro p_ e_ s_ m_ args_ below_ meth_ c_ hC hO
  refine V_join 31 (b01 (cTalk (sg (mo + 1)) b v)) ?_ (fun j31 => ?_)
  · refine V_nameI (fun can e_can => ?_)
    refine V_istore_n hC [some _, some _, some _, some _] kX6_actsTalk_31 rfl (Nat.le_of_ble_eq_true rfl) ?_
    refine V_iload_n hC kX6_actsTalk_32 rfl ?_
    refine V_if_eq hC 43 kX6_actsTalk_33 (by decide) (fun h33 => ?_) (fun h33 => ?_)
    · refine V_iload_n hC kX6_actsTalk_43 rfl ?_
      refine V_if_eq hC 51 kX6_actsTalk_44 (by decide) (fun h44 => ?_) (fun h44 => absurd h44 (not_not_intro h33))
      refine V_iconst hC (-1) kX6_actsTalk_51 (by decide) ?_
      refine V_ireti hC rfl kX6_actsTalk_52 ?_
      first
        | (have hn := b0_of e_can h33; refine ⟨cI ?_, ?_⟩; rw [if_neg hn]; rw [if_neg hn, upr_self])
        | (have hp := b1_of e_can h33; refine ⟨cI ?_, ?_⟩; rw [if_pos hp]; rw [if_pos hp])
    · refine V_aload_n hC kX6_actsTalk_36 rfl ?_
      refine V_iload_n hC kX6_actsTalk_37 rfl ?_
      refine V_iconst hC (3) kX6_actsTalk_38 (by decide) ?_
      refine V_iload_n hC kX6_actsTalk_39 rfl ?_
      refine V_cV_fV hC (ct_layBoat hWr b 3 v (vpB hc (b1_of e_can h33).1) (vp_lit rfl)) mkX6_layBoat lmX6_63 kX6_actsTalk_40 (Nat.le_of_ble_eq_true rfl) rfl rfl rfl (Nat.le_of_ble_eq_true rfl) ⟨(Nat.le_of_ble_eq_true rfl), (Nat.le_of_ble_eq_true rfl)⟩ ⟨rfl, rfl⟩ ⟨(Nat.le_of_ble_eq_true rfl), (Nat.le_of_ble_eq_true rfl)⟩ ?_
      refine V_iload_n hC kX6_actsTalk_43 rfl ?_
      refine V_if_eq hC 51 kX6_actsTalk_44 (by decide) (fun h44 => absurd h44 h33) (fun h44 => ?_)
      refine V_iconst hC (0) kX6_actsTalk_47 (by decide) ?_
      refine V_goto hC 52 kX6_actsTalk_48 (by decide) ?_
      refine V_ireti hC rfl kX6_actsTalk_52 ?_
      first
        | (have hn := b0_of e_can h33; refine ⟨cI ?_, ?_⟩; rw [if_neg hn]; rw [if_neg hn, upr_self])
        | (have hp := b1_of e_can h33; refine ⟨cI ?_, ?_⟩; rw [if_pos hp]; rw [if_pos hp])
  · refine V_aload_n hC kX6_actsTalk_0 rfl ?_
    refine V_iload_n hC kX6_actsTalk_1 rfl ?_
    refine V_cV_fI hC (ct_isBoat hWr _) mkX6_isBoat lmX6_108 kX6_actsTalk_2 (Nat.le_of_ble_eq_true rfl) rfl rfl rfl (Nat.le_of_ble_eq_true rfl) ⟨(Nat.le_of_ble_eq_true rfl), (Nat.le_of_ble_eq_true rfl)⟩ ⟨rfl, rfl⟩ ⟨(Nat.le_of_ble_eq_true rfl), (Nat.le_of_ble_eq_true rfl)⟩ ?_
    refine V_if_eq hC 30 kX6_actsTalk_5 (by decide) (fun h5 => ?_) (fun h5 => ?_)
    · refine V_iconst hC (0) kX6_actsTalk_30 (by decide) ?_
      exact j31 _ ((b01_f (fun z => (b01e.mp h5) z.1)).symm)
    · refine V_iload_n hC kX6_actsTalk_8 rfl ?_
      refine V_iconst hC (1) kX6_actsTalk_9 (by decide) ?_
      refine V_bipush hC (99) kX6_actsTalk_10 (by decide) ?_
      refine V_cS_fI hC (ct_in hWr _ _ _) mkX6_in lmX6_39 kX6_actsTalk_12 rfl rfl (Nat.le_of_ble_eq_true rfl) ⟨(Nat.le_of_ble_eq_true rfl), (Nat.le_of_ble_eq_true rfl)⟩ ⟨rfl, rfl⟩ ⟨(Nat.le_of_ble_eq_true rfl), (Nat.le_of_ble_eq_true rfl)⟩ ?_
      refine V_if_eq hC 30 kX6_actsTalk_15 (by decide) (fun h15 => ?_) (fun h15 => ?_)
      · refine V_iconst hC (0) kX6_actsTalk_30 (by decide) ?_
        exact j31 _ ((b01_f (fun z => (b01e.mp h15) z.2.1)).symm)
      · refine V_aload_n hC kX6_actsTalk_18 rfl ?_
        refine V_iload_n hC kX6_actsTalk_19 rfl ?_
        refine V_cV_fI hC (ct_canTalk hWr b (vpB hc (b01n.mp h5))) mkX6_canTalk lmX6_111 kX6_actsTalk_20 (Nat.le_of_ble_eq_true rfl) rfl rfl rfl (Nat.le_of_ble_eq_true rfl) ⟨(Nat.le_of_ble_eq_true rfl), (Nat.le_of_ble_eq_true rfl)⟩ ⟨rfl, rfl⟩ ⟨(Nat.le_of_ble_eq_true rfl), (Nat.le_of_ble_eq_true rfl)⟩ ?_
        refine V_if_eq hC 30 kX6_actsTalk_23 (by decide) (fun h23 => ?_) (fun h23 => ?_)
        · refine V_iconst hC (0) kX6_actsTalk_30 (by decide) ?_
          exact j31 _ ((b01_f (fun z => (b01e.mp h23) z.2.2)).symm)
        · refine V_iconst hC (1) kX6_actsTalk_26 (by decide) ?_
          refine V_goto hC 31 kX6_actsTalk_27 (by decide) ?_
          exact j31 _ ((b01_t ⟨b01n.mp h5, b01n.mp h15, b01n.mp h23⟩).symm)
def mtX6_actsLean : Mt := (yX6_actsLean, cX6_actsLean, 4, (some .int), 2, 43, 0, 0)
theorem kX6_actsLean_0 : Dk mtX6_actsLean 0 (.aload_n 0) 1 1 := ⟨by decide +kernel, rfl⟩
theorem kX6_actsLean_1 : Dk mtX6_actsLean 1 (.iload_n 1) 1 2 := ⟨by decide +kernel, rfl⟩
theorem kX6_actsLean_2 : Dk mtX6_actsLean 2 (.invokevirtual 114) 3 5 := ⟨by decide +kernel, rfl⟩
theorem kX6_actsLean_5 : Dk mtX6_actsLean 5 (.ifCond .eq 18) 3 8 := ⟨by decide +kernel, rfl⟩
theorem kX6_actsLean_8 : Dk mtX6_actsLean 8 (.iload_n 2) 1 9 := ⟨by decide +kernel, rfl⟩
theorem kX6_actsLean_9 : Dk mtX6_actsLean 9 (.bipush (-30)) 2 11 := ⟨by decide +kernel, rfl⟩
theorem kX6_actsLean_11 : Dk mtX6_actsLean 11 (.bipush 30) 2 13 := ⟨by decide +kernel, rfl⟩
theorem kX6_actsLean_13 : Dk mtX6_actsLean 13 (.invokestatic 39) 3 16 := ⟨by decide +kernel, rfl⟩
theorem kX6_actsLean_16 : Dk mtX6_actsLean 16 (.ifCond .eq 7) 3 19 := ⟨by decide +kernel, rfl⟩
theorem kX6_actsLean_19 : Dk mtX6_actsLean 19 (.iconst 1) 1 20 := ⟨by decide +kernel, rfl⟩
theorem kX6_actsLean_20 : Dk mtX6_actsLean 20 (.goto 4) 3 23 := ⟨by decide +kernel, rfl⟩
theorem kX6_actsLean_23 : Dk mtX6_actsLean 23 (.iconst 0) 1 24 := ⟨by decide +kernel, rfl⟩
theorem kX6_actsLean_24 : Dk mtX6_actsLean 24 (.istore_n 3) 1 25 := ⟨by decide +kernel, rfl⟩
theorem kX6_actsLean_25 : Dk mtX6_actsLean 25 (.iload_n 3) 1 26 := ⟨by decide +kernel, rfl⟩
theorem kX6_actsLean_26 : Dk mtX6_actsLean 26 (.ifCond .eq 19) 3 29 := ⟨by decide +kernel, rfl⟩
theorem kX6_actsLean_29 : Dk mtX6_actsLean 29 (.aload_n 0) 1 30 := ⟨by decide +kernel, rfl⟩
theorem kX6_actsLean_30 : Dk mtX6_actsLean 30 (.getfield 7) 3 33 := ⟨by decide +kernel, rfl⟩
theorem kX6_actsLean_33 : Dk mtX6_actsLean 33 (.bipush 12) 2 35 := ⟨by decide +kernel, rfl⟩
theorem kX6_actsLean_35 : Dk mtX6_actsLean 35 (.bipush 8) 2 37 := ⟨by decide +kernel, rfl⟩
theorem kX6_actsLean_37 : Dk mtX6_actsLean 37 (.iload_n 1) 1 38 := ⟨by decide +kernel, rfl⟩
theorem kX6_actsLean_38 : Dk mtX6_actsLean 38 (.imul) 1 39 := ⟨by decide +kernel, rfl⟩
theorem kX6_actsLean_39 : Dk mtX6_actsLean 39 (.iadd) 1 40 := ⟨by decide +kernel, rfl⟩
theorem kX6_actsLean_40 : Dk mtX6_actsLean 40 (.bipush 6) 2 42 := ⟨by decide +kernel, rfl⟩
theorem kX6_actsLean_42 : Dk mtX6_actsLean 42 (.iadd) 1 43 := ⟨by decide +kernel, rfl⟩
theorem kX6_actsLean_43 : Dk mtX6_actsLean 43 (.iload_n 2) 1 44 := ⟨by decide +kernel, rfl⟩
theorem kX6_actsLean_44 : Dk mtX6_actsLean 44 (.iastore) 1 45 := ⟨by decide +kernel, rfl⟩
theorem kX6_actsLean_45 : Dk mtX6_actsLean 45 (.iload_n 3) 1 46 := ⟨by decide +kernel, rfl⟩
theorem kX6_actsLean_46 : Dk mtX6_actsLean 46 (.ifCond .eq 7) 3 49 := ⟨by decide +kernel, rfl⟩
theorem kX6_actsLean_49 : Dk mtX6_actsLean 49 (.iconst 0) 1 50 := ⟨by decide +kernel, rfl⟩
theorem kX6_actsLean_50 : Dk mtX6_actsLean 50 (.goto 4) 3 53 := ⟨by decide +kernel, rfl⟩
theorem kX6_actsLean_53 : Dk mtX6_actsLean 53 (.iconst (-1)) 1 54 := ⟨by decide +kernel, rfl⟩
theorem kX6_actsLean_54 : Dk mtX6_actsLean 54 (.ireturn) 1 55 := ⟨by decide +kernel, rfl⟩
theorem lmX6_114 : LkM RX6 114 mtX6_isLight := Or.inl (by decide +kernel)
theorem mkX6_isLight : MkV mtX6_isLight 1 := ⟨List.mem_of_getElem? (i := 1249) (by decide +kernel), by decide +kernel, by decide +kernel, by decide +kernel, ⟨by decide +kernel, by decide +kernel, by decide +kernel⟩⟩
set_option maxHeartbeats 4000000 in
set_option maxRecDepth 100000 in
theorem ct_actsLean {l : Launch} {w : Wd} {sg : Sg} (hWr : Wr w) {mo : Nat} (a v : Int32) (hc : 0 ≤ (sg (mo + 1) 4).toInt ∧ (sg (mo + 1) 4).toInt ≤ 6) : M l mtX6_actsLean w [vR (some (6, 0, mo)), vI a, vI v] sg (fI (if cLean (sg (mo + 1)) a v then 0 else -1) (upr sg (mo + 1) (if cLean (sg (mo + 1)) a v then F_lean (sg (mo + 1)) a v else (sg (mo + 1))))) := by
  refine M_of [some (vR (some (6, 0, mo))), some (vI a), some (vI v), none] rfl (Nat.le_of_ble_eq_true rfl) (by decide +kernel) ?_
  intro p_ e_ s_ m_ args_ below_ meth_ c_ hC hO
  refine V_join 24 (b01 (cLean (sg (mo + 1)) a v)) ?_ (fun j24 => ?_)
  · refine V_nameI (fun can e_can => ?_)
    refine V_istore_n hC [some _, some _, some _, some _] kX6_actsLean_24 rfl (Nat.le_of_ble_eq_true rfl) ?_
    refine V_iload_n hC kX6_actsLean_25 rfl ?_
    refine V_if_eq hC 45 kX6_actsLean_26 (by decide) (fun h26 => ?_) (fun h26 => ?_)
    · refine V_iload_n hC kX6_actsLean_45 rfl ?_
      refine V_if_eq hC 53 kX6_actsLean_46 (by decide) (fun h46 => ?_) (fun h46 => absurd h46 (not_not_intro h26))
      refine V_iconst hC (-1) kX6_actsLean_53 (by decide) ?_
      refine V_ireti hC rfl kX6_actsLean_54 ?_
      first
        | (have hn := b0_of e_can h26; refine ⟨cI ?_, ?_⟩; rw [if_neg hn]; rw [if_neg hn, upr_self])
        | (have hp := b1_of e_can h26; refine ⟨cI ?_, ?_⟩; rw [if_pos hp]; rw [if_pos hp]; unfold F_lean ups; with_reducible rfl)
    · refine V_aload_n hC kX6_actsLean_29 rfl ?_
      refine V_getR hC hWr 6 1 lfX6_7 kX6_actsLean_30 (Nat.le_of_ble_eq_true rfl) (Nat.le_of_ble_eq_true rfl) rfl ?_
      refine V_bipush hC (12) kX6_actsLean_33 (by decide) ?_
      refine V_bipush hC (8) kX6_actsLean_35 (by decide) ?_
      refine V_iload_n hC kX6_actsLean_37 rfl ?_
      refine V_imul hC kX6_actsLean_38 ?_
      refine V_iadd hC kX6_actsLean_39 ?_
      refine V_bipush hC (6) kX6_actsLean_40 (by decide) ?_
      refine V_iadd hC kX6_actsLean_42 ?_
      refine V_iload_n hC kX6_actsLean_43 rfl ?_
      refine V_iast hC _ rfl kX6_actsLean_44 (inL (vpL hc (b1_of e_can h26).1) (vp_lit rfl)) ?_
      refine V_iload_n hC kX6_actsLean_45 rfl ?_
      refine V_if_eq hC 53 kX6_actsLean_46 (by decide) (fun h46 => absurd h46 h26) (fun h46 => ?_)
      refine V_iconst hC (0) kX6_actsLean_49 (by decide) ?_
      refine V_goto hC 54 kX6_actsLean_50 (by decide) ?_
      refine V_ireti hC rfl kX6_actsLean_54 ?_
      first
        | (have hn := b0_of e_can h26; refine ⟨cI ?_, ?_⟩; rw [if_neg hn]; rw [if_neg hn, upr_self])
        | (have hp := b1_of e_can h26; refine ⟨cI ?_, ?_⟩; rw [if_pos hp]; rw [if_pos hp]; unfold F_lean ups; with_reducible rfl)
  · refine V_aload_n hC kX6_actsLean_0 rfl ?_
    refine V_iload_n hC kX6_actsLean_1 rfl ?_
    refine V_cV_fI hC (ct_isLight hWr _) mkX6_isLight lmX6_114 kX6_actsLean_2 (Nat.le_of_ble_eq_true rfl) rfl rfl rfl (Nat.le_of_ble_eq_true rfl) ⟨(Nat.le_of_ble_eq_true rfl), (Nat.le_of_ble_eq_true rfl)⟩ ⟨rfl, rfl⟩ ⟨(Nat.le_of_ble_eq_true rfl), (Nat.le_of_ble_eq_true rfl)⟩ ?_
    refine V_if_eq hC 23 kX6_actsLean_5 (by decide) (fun h5 => ?_) (fun h5 => ?_)
    · refine V_iconst hC (0) kX6_actsLean_23 (by decide) ?_
      exact j24 _ ((b01_f (fun z => (b01e.mp h5) z.1)).symm)
    · refine V_iload_n hC kX6_actsLean_8 rfl ?_
      refine V_bipush hC (-30) kX6_actsLean_9 (by decide) ?_
      refine V_bipush hC (30) kX6_actsLean_11 (by decide) ?_
      refine V_cS_fI hC (ct_in hWr _ _ _) mkX6_in lmX6_39 kX6_actsLean_13 rfl rfl (Nat.le_of_ble_eq_true rfl) ⟨(Nat.le_of_ble_eq_true rfl), (Nat.le_of_ble_eq_true rfl)⟩ ⟨rfl, rfl⟩ ⟨(Nat.le_of_ble_eq_true rfl), (Nat.le_of_ble_eq_true rfl)⟩ ?_
      refine V_if_eq hC 23 kX6_actsLean_16 (by decide) (fun h16 => ?_) (fun h16 => ?_)
      · refine V_iconst hC (0) kX6_actsLean_23 (by decide) ?_
        exact j24 _ ((b01_f (fun z => (b01e.mp h16) z.2)).symm)
      · refine V_iconst hC (1) kX6_actsLean_19 (by decide) ?_
        refine V_goto hC 24 kX6_actsLean_20 (by decide) ?_
        exact j24 _ ((b01_t ⟨b01n.mp h5, b01n.mp h16⟩).symm)
def mtX6_actsDim : Mt := (yX6_actsDim, cX6_actsDim, 4, (some .int), 2, 43, 0, 0)
theorem kX6_actsDim_0 : Dk mtX6_actsDim 0 (.aload_n 0) 1 1 := ⟨by decide +kernel, rfl⟩
theorem kX6_actsDim_1 : Dk mtX6_actsDim 1 (.iload_n 1) 1 2 := ⟨by decide +kernel, rfl⟩
theorem kX6_actsDim_2 : Dk mtX6_actsDim 2 (.invokevirtual 114) 3 5 := ⟨by decide +kernel, rfl⟩
theorem kX6_actsDim_5 : Dk mtX6_actsDim 5 (.ifCond .eq 18) 3 8 := ⟨by decide +kernel, rfl⟩
theorem kX6_actsDim_8 : Dk mtX6_actsDim 8 (.iload_n 2) 1 9 := ⟨by decide +kernel, rfl⟩
theorem kX6_actsDim_9 : Dk mtX6_actsDim 9 (.bipush 10) 2 11 := ⟨by decide +kernel, rfl⟩
theorem kX6_actsDim_11 : Dk mtX6_actsDim 11 (.bipush 99) 2 13 := ⟨by decide +kernel, rfl⟩
theorem kX6_actsDim_13 : Dk mtX6_actsDim 13 (.invokestatic 39) 3 16 := ⟨by decide +kernel, rfl⟩
theorem kX6_actsDim_16 : Dk mtX6_actsDim 16 (.ifCond .eq 7) 3 19 := ⟨by decide +kernel, rfl⟩
theorem kX6_actsDim_19 : Dk mtX6_actsDim 19 (.iconst 1) 1 20 := ⟨by decide +kernel, rfl⟩
theorem kX6_actsDim_20 : Dk mtX6_actsDim 20 (.goto 4) 3 23 := ⟨by decide +kernel, rfl⟩
theorem kX6_actsDim_23 : Dk mtX6_actsDim 23 (.iconst 0) 1 24 := ⟨by decide +kernel, rfl⟩
theorem kX6_actsDim_24 : Dk mtX6_actsDim 24 (.istore_n 3) 1 25 := ⟨by decide +kernel, rfl⟩
theorem kX6_actsDim_25 : Dk mtX6_actsDim 25 (.iload_n 3) 1 26 := ⟨by decide +kernel, rfl⟩
theorem kX6_actsDim_26 : Dk mtX6_actsDim 26 (.ifCond .eq 18) 3 29 := ⟨by decide +kernel, rfl⟩
theorem kX6_actsDim_29 : Dk mtX6_actsDim 29 (.aload_n 0) 1 30 := ⟨by decide +kernel, rfl⟩
theorem kX6_actsDim_30 : Dk mtX6_actsDim 30 (.getfield 7) 3 33 := ⟨by decide +kernel, rfl⟩
theorem kX6_actsDim_33 : Dk mtX6_actsDim 33 (.bipush 12) 2 35 := ⟨by decide +kernel, rfl⟩
theorem kX6_actsDim_35 : Dk mtX6_actsDim 35 (.bipush 8) 2 37 := ⟨by decide +kernel, rfl⟩
theorem kX6_actsDim_37 : Dk mtX6_actsDim 37 (.iload_n 1) 1 38 := ⟨by decide +kernel, rfl⟩
theorem kX6_actsDim_38 : Dk mtX6_actsDim 38 (.imul) 1 39 := ⟨by decide +kernel, rfl⟩
theorem kX6_actsDim_39 : Dk mtX6_actsDim 39 (.iadd) 1 40 := ⟨by decide +kernel, rfl⟩
theorem kX6_actsDim_40 : Dk mtX6_actsDim 40 (.iconst 1) 1 41 := ⟨by decide +kernel, rfl⟩
theorem kX6_actsDim_41 : Dk mtX6_actsDim 41 (.iadd) 1 42 := ⟨by decide +kernel, rfl⟩
theorem kX6_actsDim_42 : Dk mtX6_actsDim 42 (.iload_n 2) 1 43 := ⟨by decide +kernel, rfl⟩
theorem kX6_actsDim_43 : Dk mtX6_actsDim 43 (.iastore) 1 44 := ⟨by decide +kernel, rfl⟩
theorem kX6_actsDim_44 : Dk mtX6_actsDim 44 (.iload_n 3) 1 45 := ⟨by decide +kernel, rfl⟩
theorem kX6_actsDim_45 : Dk mtX6_actsDim 45 (.ifCond .eq 7) 3 48 := ⟨by decide +kernel, rfl⟩
theorem kX6_actsDim_48 : Dk mtX6_actsDim 48 (.iconst 0) 1 49 := ⟨by decide +kernel, rfl⟩
theorem kX6_actsDim_49 : Dk mtX6_actsDim 49 (.goto 4) 3 52 := ⟨by decide +kernel, rfl⟩
theorem kX6_actsDim_52 : Dk mtX6_actsDim 52 (.iconst (-1)) 1 53 := ⟨by decide +kernel, rfl⟩
theorem kX6_actsDim_53 : Dk mtX6_actsDim 53 (.ireturn) 1 54 := ⟨by decide +kernel, rfl⟩
set_option maxHeartbeats 4000000 in
set_option maxRecDepth 100000 in
theorem ct_actsDim {l : Launch} {w : Wd} {sg : Sg} (hWr : Wr w) {mo : Nat} (a v : Int32) (hc : 0 ≤ (sg (mo + 1) 4).toInt ∧ (sg (mo + 1) 4).toInt ≤ 6) : M l mtX6_actsDim w [vR (some (6, 0, mo)), vI a, vI v] sg (fI (if cDim (sg (mo + 1)) a v then 0 else -1) (upr sg (mo + 1) (if cDim (sg (mo + 1)) a v then F_dim (sg (mo + 1)) a v else (sg (mo + 1))))) := by
  refine M_of [some (vR (some (6, 0, mo))), some (vI a), some (vI v), none] rfl (Nat.le_of_ble_eq_true rfl) (by decide +kernel) ?_
  intro p_ e_ s_ m_ args_ below_ meth_ c_ hC hO
  refine V_join 24 (b01 (cDim (sg (mo + 1)) a v)) ?_ (fun j24 => ?_)
  · refine V_nameI (fun can e_can => ?_)
    refine V_istore_n hC [some _, some _, some _, some _] kX6_actsDim_24 rfl (Nat.le_of_ble_eq_true rfl) ?_
    refine V_iload_n hC kX6_actsDim_25 rfl ?_
    refine V_if_eq hC 44 kX6_actsDim_26 (by decide) (fun h26 => ?_) (fun h26 => ?_)
    · refine V_iload_n hC kX6_actsDim_44 rfl ?_
      refine V_if_eq hC 52 kX6_actsDim_45 (by decide) (fun h45 => ?_) (fun h45 => absurd h45 (not_not_intro h26))
      refine V_iconst hC (-1) kX6_actsDim_52 (by decide) ?_
      refine V_ireti hC rfl kX6_actsDim_53 ?_
      first
        | (have hn := b0_of e_can h26; refine ⟨cI ?_, ?_⟩; rw [if_neg hn]; rw [if_neg hn, upr_self])
        | (have hp := b1_of e_can h26; refine ⟨cI ?_, ?_⟩; rw [if_pos hp]; rw [if_pos hp]; unfold F_dim ups; with_reducible rfl)
    · refine V_aload_n hC kX6_actsDim_29 rfl ?_
      refine V_getR hC hWr 6 1 lfX6_7 kX6_actsDim_30 (Nat.le_of_ble_eq_true rfl) (Nat.le_of_ble_eq_true rfl) rfl ?_
      refine V_bipush hC (12) kX6_actsDim_33 (by decide) ?_
      refine V_bipush hC (8) kX6_actsDim_35 (by decide) ?_
      refine V_iload_n hC kX6_actsDim_37 rfl ?_
      refine V_imul hC kX6_actsDim_38 ?_
      refine V_iadd hC kX6_actsDim_39 ?_
      refine V_iconst hC (1) kX6_actsDim_40 (by decide) ?_
      refine V_iadd hC kX6_actsDim_41 ?_
      refine V_iload_n hC kX6_actsDim_42 rfl ?_
      refine V_iast hC _ rfl kX6_actsDim_43 (inL (vpL hc (b1_of e_can h26).1) (vp_lit rfl)) ?_
      refine V_iload_n hC kX6_actsDim_44 rfl ?_
      refine V_if_eq hC 52 kX6_actsDim_45 (by decide) (fun h45 => absurd h45 h26) (fun h45 => ?_)
      refine V_iconst hC (0) kX6_actsDim_48 (by decide) ?_
      refine V_goto hC 53 kX6_actsDim_49 (by decide) ?_
      refine V_ireti hC rfl kX6_actsDim_53 ?_
      first
        | (have hn := b0_of e_can h26; refine ⟨cI ?_, ?_⟩; rw [if_neg hn]; rw [if_neg hn, upr_self])
        | (have hp := b1_of e_can h26; refine ⟨cI ?_, ?_⟩; rw [if_pos hp]; rw [if_pos hp]; unfold F_dim ups; with_reducible rfl)
  · refine V_aload_n hC kX6_actsDim_0 rfl ?_
    refine V_iload_n hC kX6_actsDim_1 rfl ?_
    refine V_cV_fI hC (ct_isLight hWr _) mkX6_isLight lmX6_114 kX6_actsDim_2 (Nat.le_of_ble_eq_true rfl) rfl rfl rfl (Nat.le_of_ble_eq_true rfl) ⟨(Nat.le_of_ble_eq_true rfl), (Nat.le_of_ble_eq_true rfl)⟩ ⟨rfl, rfl⟩ ⟨(Nat.le_of_ble_eq_true rfl), (Nat.le_of_ble_eq_true rfl)⟩ ?_
    refine V_if_eq hC 23 kX6_actsDim_5 (by decide) (fun h5 => ?_) (fun h5 => ?_)
    · refine V_iconst hC (0) kX6_actsDim_23 (by decide) ?_
      exact j24 _ ((b01_f (fun z => (b01e.mp h5) z.1)).symm)
    · refine V_iload_n hC kX6_actsDim_8 rfl ?_
      refine V_bipush hC (10) kX6_actsDim_9 (by decide) ?_
      refine V_bipush hC (99) kX6_actsDim_11 (by decide) ?_
      refine V_cS_fI hC (ct_in hWr _ _ _) mkX6_in lmX6_39 kX6_actsDim_13 rfl rfl (Nat.le_of_ble_eq_true rfl) ⟨(Nat.le_of_ble_eq_true rfl), (Nat.le_of_ble_eq_true rfl)⟩ ⟨rfl, rfl⟩ ⟨(Nat.le_of_ble_eq_true rfl), (Nat.le_of_ble_eq_true rfl)⟩ ?_
      refine V_if_eq hC 23 kX6_actsDim_16 (by decide) (fun h16 => ?_) (fun h16 => ?_)
      · refine V_iconst hC (0) kX6_actsDim_23 (by decide) ?_
        exact j24 _ ((b01_f (fun z => (b01e.mp h16) z.2)).symm)
      · refine V_iconst hC (1) kX6_actsDim_19 (by decide) ?_
        refine V_goto hC 24 kX6_actsDim_20 (by decide) ?_
        exact j24 _ ((b01_t ⟨b01n.mp h5, b01n.mp h16⟩).symm)
def mtX6_mostOf : Mt := (yX6_mostOf, cX6_mostOf, 1, (some .int), 0, 0, 0, 0)
theorem kX6_mostOf_0 : Dk mtX6_mostOf 0 (.iload_n 0) 1 1 := ⟨by decide +kernel, rfl⟩
theorem kX6_mostOf_1 : Dk mtX6_mostOf 1 (.ifCond .ne 8) 3 4 := ⟨by decide +kernel, rfl⟩
theorem kX6_mostOf_4 : Dk mtX6_mostOf 4 (.bipush 100) 2 6 := ⟨by decide +kernel, rfl⟩
theorem kX6_mostOf_6 : Dk mtX6_mostOf 6 (.goto 26) 3 9 := ⟨by decide +kernel, rfl⟩
theorem kX6_mostOf_9 : Dk mtX6_mostOf 9 (.iload_n 0) 1 10 := ⟨by decide +kernel, rfl⟩
theorem kX6_mostOf_10 : Dk mtX6_mostOf 10 (.iconst 1) 1 11 := ⟨by decide +kernel, rfl⟩
theorem kX6_mostOf_11 : Dk mtX6_mostOf 11 (.if_icmp .ne 8) 3 14 := ⟨by decide +kernel, rfl⟩
theorem kX6_mostOf_14 : Dk mtX6_mostOf 14 (.bipush 10) 2 16 := ⟨by decide +kernel, rfl⟩
theorem kX6_mostOf_16 : Dk mtX6_mostOf 16 (.goto 16) 3 19 := ⟨by decide +kernel, rfl⟩
theorem kX6_mostOf_19 : Dk mtX6_mostOf 19 (.iload_n 0) 1 20 := ⟨by decide +kernel, rfl⟩
theorem kX6_mostOf_20 : Dk mtX6_mostOf 20 (.iconst 2) 1 21 := ⟨by decide +kernel, rfl⟩
theorem kX6_mostOf_21 : Dk mtX6_mostOf 21 (.if_icmp .ne 9) 3 24 := ⟨by decide +kernel, rfl⟩
theorem kX6_mostOf_24 : Dk mtX6_mostOf 24 (.sipush 300) 3 27 := ⟨by decide +kernel, rfl⟩
theorem kX6_mostOf_27 : Dk mtX6_mostOf 27 (.goto 5) 3 30 := ⟨by decide +kernel, rfl⟩
theorem kX6_mostOf_30 : Dk mtX6_mostOf 30 (.bipush 50) 2 32 := ⟨by decide +kernel, rfl⟩
theorem kX6_mostOf_32 : Dk mtX6_mostOf 32 (.ireturn) 1 33 := ⟨by decide +kernel, rfl⟩
set_option maxHeartbeats 4000000 in
set_option maxRecDepth 100000 in
theorem ct_mostOf {l : Launch} {w : Wd} {sg : Sg} (hWr : Wr w) (a : Int32) : M l mtX6_mostOf w [vI a] sg (fI (F_most a) sg) := by
  refine M_of [some (vI a)] rfl (Nat.le_of_ble_eq_true rfl) (by decide +kernel) ?_
  intro p_ e_ s_ m_ args_ below_ meth_ c_ hC hO
  refine V_iload_n hC kX6_mostOf_0 rfl ?_
  refine V_if_ne hC 9 kX6_mostOf_1 (by decide) (fun h1 => ?_) (fun h1 => ?_)
  · refine V_iload_n hC kX6_mostOf_9 rfl ?_
    refine V_iconst hC (1) kX6_mostOf_10 (by decide) ?_
    refine V_icmp_ne hC 19 kX6_mostOf_11 (by decide) (fun h11 => ?_) (fun h11 => ?_)
    · refine V_iload_n hC kX6_mostOf_19 rfl ?_
      refine V_iconst hC (2) kX6_mostOf_20 (by decide) ?_
      refine V_icmp_ne hC 30 kX6_mostOf_21 (by decide) (fun h21 => ?_) (fun h21 => ?_)
      · refine V_bipush hC (50) kX6_mostOf_30 (by decide) ?_
        refine V_ireti hC rfl kX6_mostOf_32 ?_
        refine ⟨cI ?_, by with_reducible rfl⟩
        unfold F_most
        first
          | (rw [if_pos (show a = 0 from h1)]; done)
          | (rw [if_neg h1, if_pos (show a = 1 from h11)]; done)
          | (rw [if_neg h1, if_neg h11, if_pos (show a = 2 from h21)]; done)
          | (rw [if_neg h1, if_neg h11, if_neg h21]; done)
      · refine V_sipush hC (300) kX6_mostOf_24 (by decide) ?_
        refine V_goto hC 32 kX6_mostOf_27 (by decide) ?_
        refine V_ireti hC rfl kX6_mostOf_32 ?_
        refine ⟨cI ?_, by with_reducible rfl⟩
        unfold F_most
        first
          | (rw [if_pos (show a = 0 from h1)]; done)
          | (rw [if_neg h1, if_pos (show a = 1 from h11)]; done)
          | (rw [if_neg h1, if_neg h11, if_pos (show a = 2 from h21)]; done)
          | (rw [if_neg h1, if_neg h11, if_neg h21]; done)
    · refine V_bipush hC (10) kX6_mostOf_14 (by decide) ?_
      refine V_goto hC 32 kX6_mostOf_16 (by decide) ?_
      refine V_ireti hC rfl kX6_mostOf_32 ?_
      refine ⟨cI ?_, by with_reducible rfl⟩
      unfold F_most
      first
        | (rw [if_pos (show a = 0 from h1)]; done)
        | (rw [if_neg h1, if_pos (show a = 1 from h11)]; done)
        | (rw [if_neg h1, if_neg h11, if_pos (show a = 2 from h21)]; done)
        | (rw [if_neg h1, if_neg h11, if_neg h21]; done)
  · refine V_bipush hC (100) kX6_mostOf_4 (by decide) ?_
    refine V_goto hC 32 kX6_mostOf_6 (by decide) ?_
    refine V_ireti hC rfl kX6_mostOf_32 ?_
    refine ⟨cI ?_, by with_reducible rfl⟩
    unfold F_most
    first
      | (rw [if_pos (show a = 0 from h1)]; done)
      | (rw [if_neg h1, if_pos (show a = 1 from h11)]; done)
      | (rw [if_neg h1, if_neg h11, if_pos (show a = 2 from h21)]; done)
      | (rw [if_neg h1, if_neg h11, if_neg h21]; done)
def mtX6_isSetting : Mt := (yX6_isSetting, cX6_isSetting, 2, (some .boolean), 1, 22, 0, 0)
theorem kX6_isSetting_0 : Dk mtX6_isSetting 0 (.iload_n 0) 1 1 := ⟨by decide +kernel, rfl⟩
theorem kX6_isSetting_1 : Dk mtX6_isSetting 1 (.iconst 0) 1 2 := ⟨by decide +kernel, rfl⟩
theorem kX6_isSetting_2 : Dk mtX6_isSetting 2 (.iconst 3) 1 3 := ⟨by decide +kernel, rfl⟩
theorem kX6_isSetting_3 : Dk mtX6_isSetting 3 (.invokestatic 39) 3 6 := ⟨by decide +kernel, rfl⟩
theorem kX6_isSetting_6 : Dk mtX6_isSetting 6 (.ifCond .eq 33) 3 9 := ⟨by decide +kernel, rfl⟩
theorem kX6_isSetting_9 : Dk mtX6_isSetting 9 (.iload_n 1) 1 10 := ⟨by decide +kernel, rfl⟩
theorem kX6_isSetting_10 : Dk mtX6_isSetting 10 (.iload_n 0) 1 11 := ⟨by decide +kernel, rfl⟩
theorem kX6_isSetting_11 : Dk mtX6_isSetting 11 (.iconst 1) 1 12 := ⟨by decide +kernel, rfl⟩
theorem kX6_isSetting_12 : Dk mtX6_isSetting 12 (.if_icmp .eq 8) 3 15 := ⟨by decide +kernel, rfl⟩
theorem kX6_isSetting_15 : Dk mtX6_isSetting 15 (.iload_n 0) 1 16 := ⟨by decide +kernel, rfl⟩
theorem kX6_isSetting_16 : Dk mtX6_isSetting 16 (.iconst 2) 1 17 := ⟨by decide +kernel, rfl⟩
theorem kX6_isSetting_17 : Dk mtX6_isSetting 17 (.if_icmp .ne 7) 3 20 := ⟨by decide +kernel, rfl⟩
theorem kX6_isSetting_20 : Dk mtX6_isSetting 20 (.iconst 1) 1 21 := ⟨by decide +kernel, rfl⟩
theorem kX6_isSetting_21 : Dk mtX6_isSetting 21 (.goto 4) 3 24 := ⟨by decide +kernel, rfl⟩
theorem kX6_isSetting_24 : Dk mtX6_isSetting 24 (.iconst 0) 1 25 := ⟨by decide +kernel, rfl⟩
theorem kX6_isSetting_25 : Dk mtX6_isSetting 25 (.iload_n 0) 1 26 := ⟨by decide +kernel, rfl⟩
theorem kX6_isSetting_26 : Dk mtX6_isSetting 26 (.invokestatic 117) 3 29 := ⟨by decide +kernel, rfl⟩
theorem kX6_isSetting_29 : Dk mtX6_isSetting 29 (.invokestatic 39) 3 32 := ⟨by decide +kernel, rfl⟩
theorem kX6_isSetting_32 : Dk mtX6_isSetting 32 (.ifCond .eq 7) 3 35 := ⟨by decide +kernel, rfl⟩
theorem kX6_isSetting_35 : Dk mtX6_isSetting 35 (.iconst 1) 1 36 := ⟨by decide +kernel, rfl⟩
theorem kX6_isSetting_36 : Dk mtX6_isSetting 36 (.goto 4) 3 39 := ⟨by decide +kernel, rfl⟩
theorem kX6_isSetting_39 : Dk mtX6_isSetting 39 (.iconst 0) 1 40 := ⟨by decide +kernel, rfl⟩
theorem kX6_isSetting_40 : Dk mtX6_isSetting 40 (.ireturn) 1 41 := ⟨by decide +kernel, rfl⟩
theorem lmX6_117 : LkM RX6 117 mtX6_mostOf := Or.inl (by decide +kernel)
theorem mkX6_mostOf : MkS mtX6_mostOf 1 := ⟨List.mem_of_getElem? (i := 1169) (by decide +kernel), by decide +kernel, by decide +kernel, ⟨by decide +kernel, by decide +kernel, by decide +kernel⟩⟩
set_option maxHeartbeats 4000000 in
set_option maxRecDepth 100000 in
theorem ct_isSetting {l : Launch} {w : Wd} {sg : Sg} (hWr : Wr w) (a v : Int32) : M l mtX6_isSetting w [vI a, vI v] sg (fI (b01 (cSet a v)) sg) := by
  refine M_of [some (vI a), some (vI v)] rfl (Nat.le_of_ble_eq_true rfl) (by decide +kernel) ?_
  intro p_ e_ s_ m_ args_ below_ meth_ c_ hC hO
  refine V_iload_n hC kX6_isSetting_0 rfl ?_
  refine V_iconst hC (0) kX6_isSetting_1 (by decide) ?_
  refine V_iconst hC (3) kX6_isSetting_2 (by decide) ?_
  refine V_cS_fI hC (ct_in hWr _ _ _) mkX6_in lmX6_39 kX6_isSetting_3 rfl rfl (Nat.le_of_ble_eq_true rfl) ⟨(Nat.le_of_ble_eq_true rfl), (Nat.le_of_ble_eq_true rfl)⟩ ⟨rfl, rfl⟩ ⟨(Nat.le_of_ble_eq_true rfl), (Nat.le_of_ble_eq_true rfl)⟩ ?_
  refine V_if_eq hC 39 kX6_isSetting_6 (by decide) (fun h6 => ?_) (fun h6 => ?_)
  · refine V_iconst hC (0) kX6_isSetting_39 (by decide) ?_
    refine V_iretz hC rfl kX6_isSetting_40 ?_ ?_
    · first | exact Or.inl rfl | exact Or.inr rfl | exact b01_z _
    · refine ⟨?_, by with_reducible rfl⟩
      first
        | exact cI (b01_f (fun z => (b01e.mp h6) z.1)).symm
        | exact cI (b01_f (fun z => (b01e.mp h32) z.2)).symm
        | exact cI (b01_t ⟨b01n.mp h6, b01n.mp h32⟩).symm
  · refine V_iload_n hC kX6_isSetting_9 rfl ?_
    refine V_join 25 (b01 (a = 1 ∨ a = 2)) ?_ (fun j25 => ?_)
    · refine V_iload_n hC kX6_isSetting_25 rfl ?_
      refine V_cS_fI hC (ct_mostOf hWr a) mkX6_mostOf lmX6_117 kX6_isSetting_26 rfl rfl (Nat.le_of_ble_eq_true rfl) ⟨(Nat.le_of_ble_eq_true rfl), (Nat.le_of_ble_eq_true rfl)⟩ ⟨rfl, rfl⟩ ⟨(Nat.le_of_ble_eq_true rfl), (Nat.le_of_ble_eq_true rfl)⟩ ?_
      refine V_cS_fI hC (ct_in hWr _ _ _) mkX6_in lmX6_39 kX6_isSetting_29 rfl rfl (Nat.le_of_ble_eq_true rfl) ⟨(Nat.le_of_ble_eq_true rfl), (Nat.le_of_ble_eq_true rfl)⟩ ⟨rfl, rfl⟩ ⟨(Nat.le_of_ble_eq_true rfl), (Nat.le_of_ble_eq_true rfl)⟩ ?_
      refine V_if_eq hC 39 kX6_isSetting_32 (by decide) (fun h32 => ?_) (fun h32 => ?_)
      · refine V_iconst hC (0) kX6_isSetting_39 (by decide) ?_
        refine V_iretz hC rfl kX6_isSetting_40 ?_ ?_
        · first | exact Or.inl rfl | exact Or.inr rfl | exact b01_z _
        · refine ⟨?_, by with_reducible rfl⟩
          first
            | exact cI (b01_f (fun z => (b01e.mp h6) z.1)).symm
            | exact cI (b01_f (fun z => (b01e.mp h32) z.2)).symm
            | exact cI (b01_t ⟨b01n.mp h6, b01n.mp h32⟩).symm
      · refine V_iconst hC (1) kX6_isSetting_35 (by decide) ?_
        refine V_goto hC 40 kX6_isSetting_36 (by decide) ?_
        refine V_iretz hC rfl kX6_isSetting_40 ?_ ?_
        · first | exact Or.inl rfl | exact Or.inr rfl | exact b01_z _
        · refine ⟨?_, by with_reducible rfl⟩
          first
            | exact cI (b01_f (fun z => (b01e.mp h6) z.1)).symm
            | exact cI (b01_f (fun z => (b01e.mp h32) z.2)).symm
            | exact cI (b01_t ⟨b01n.mp h6, b01n.mp h32⟩).symm
    · refine V_iload_n hC kX6_isSetting_10 rfl ?_
      refine V_iconst hC (1) kX6_isSetting_11 (by decide) ?_
      refine V_icmp_eq hC 20 kX6_isSetting_12 (by decide) (fun h12 => ?_) (fun h12 => ?_)
      · refine V_iconst hC (1) kX6_isSetting_20 (by decide) ?_
        refine V_goto hC 25 kX6_isSetting_21 (by decide) ?_
        exact j25 _ ((b01_t (Or.inl h12)).symm)
      · refine V_iload_n hC kX6_isSetting_15 rfl ?_
        refine V_iconst hC (2) kX6_isSetting_16 (by decide) ?_
        refine V_icmp_ne hC 24 kX6_isSetting_17 (by decide) (fun h17 => ?_) (fun h17 => ?_)
        · refine V_iconst hC (0) kX6_isSetting_24 (by decide) ?_
          exact j25 _ ((b01_f (fun z => z.elim h12 h17)).symm)
        · refine V_iconst hC (1) kX6_isSetting_20 (by decide) ?_
          refine V_goto hC 25 kX6_isSetting_21 (by decide) ?_
          exact j25 _ ((b01_t (Or.inr h17)).symm)
def mtX6_actsSet : Mt := (yX6_actsSet, cX6_actsSet, 4, (some .int), 2, 43, 0, 0)
theorem kX6_actsSet_0 : Dk mtX6_actsSet 0 (.iload_n 1) 1 1 := ⟨by decide +kernel, rfl⟩
theorem kX6_actsSet_1 : Dk mtX6_actsSet 1 (.iload_n 2) 1 2 := ⟨by decide +kernel, rfl⟩
theorem kX6_actsSet_2 : Dk mtX6_actsSet 2 (.invokestatic 120) 3 5 := ⟨by decide +kernel, rfl⟩
theorem kX6_actsSet_5 : Dk mtX6_actsSet 5 (.istore_n 3) 1 6 := ⟨by decide +kernel, rfl⟩
theorem kX6_actsSet_6 : Dk mtX6_actsSet 6 (.iload_n 3) 1 7 := ⟨by decide +kernel, rfl⟩
theorem kX6_actsSet_7 : Dk mtX6_actsSet 7 (.ifCond .eq 10) 3 10 := ⟨by decide +kernel, rfl⟩
theorem kX6_actsSet_10 : Dk mtX6_actsSet 10 (.aload_n 0) 1 11 := ⟨by decide +kernel, rfl⟩
theorem kX6_actsSet_11 : Dk mtX6_actsSet 11 (.getfield 7) 3 14 := ⟨by decide +kernel, rfl⟩
theorem kX6_actsSet_14 : Dk mtX6_actsSet 14 (.iload_n 1) 1 15 := ⟨by decide +kernel, rfl⟩
theorem kX6_actsSet_15 : Dk mtX6_actsSet 15 (.iload_n 2) 1 16 := ⟨by decide +kernel, rfl⟩
theorem kX6_actsSet_16 : Dk mtX6_actsSet 16 (.iastore) 1 17 := ⟨by decide +kernel, rfl⟩
theorem kX6_actsSet_17 : Dk mtX6_actsSet 17 (.iload_n 3) 1 18 := ⟨by decide +kernel, rfl⟩
theorem kX6_actsSet_18 : Dk mtX6_actsSet 18 (.ifCond .eq 7) 3 21 := ⟨by decide +kernel, rfl⟩
theorem kX6_actsSet_21 : Dk mtX6_actsSet 21 (.iconst 0) 1 22 := ⟨by decide +kernel, rfl⟩
theorem kX6_actsSet_22 : Dk mtX6_actsSet 22 (.goto 4) 3 25 := ⟨by decide +kernel, rfl⟩
theorem kX6_actsSet_25 : Dk mtX6_actsSet 25 (.iconst (-1)) 1 26 := ⟨by decide +kernel, rfl⟩
theorem kX6_actsSet_26 : Dk mtX6_actsSet 26 (.ireturn) 1 27 := ⟨by decide +kernel, rfl⟩
theorem lmX6_120 : LkM RX6 120 mtX6_isSetting := Or.inl (by decide +kernel)
theorem mkX6_isSetting : MkS mtX6_isSetting 2 := ⟨List.mem_of_getElem? (i := 1166) (by decide +kernel), by decide +kernel, by decide +kernel, ⟨by decide +kernel, by decide +kernel, by decide +kernel⟩⟩
set_option maxHeartbeats 4000000 in
set_option maxRecDepth 100000 in
theorem ct_actsSet {l : Launch} {w : Wd} {sg : Sg} (hWr : Wr w) {mo : Nat} (a v : Int32) : M l mtX6_actsSet w [vR (some (6, 0, mo)), vI a, vI v] sg (fI (if cSet a v then 0 else -1) (upr sg (mo + 1) (if cSet a v then upd (sg (mo + 1)) (tn a) v else (sg (mo + 1))))) := by
  refine M_of [some (vR (some (6, 0, mo))), some (vI a), some (vI v), none] rfl (Nat.le_of_ble_eq_true rfl) (by decide +kernel) ?_
  intro p_ e_ s_ m_ args_ below_ meth_ c_ hC hO
  refine V_iload_n hC kX6_actsSet_0 rfl ?_
  refine V_iload_n hC kX6_actsSet_1 rfl ?_
  refine V_cS_fI hC (ct_isSetting hWr _ _) mkX6_isSetting lmX6_120 kX6_actsSet_2 rfl rfl (Nat.le_of_ble_eq_true rfl) ⟨(Nat.le_of_ble_eq_true rfl), (Nat.le_of_ble_eq_true rfl)⟩ ⟨rfl, rfl⟩ ⟨(Nat.le_of_ble_eq_true rfl), (Nat.le_of_ble_eq_true rfl)⟩ ?_
  refine V_nameI (fun can e_can => ?_)
  refine V_istore_n hC [some _, some _, some _, some _] kX6_actsSet_5 rfl (Nat.le_of_ble_eq_true rfl) ?_
  refine V_iload_n hC kX6_actsSet_6 rfl ?_
  refine V_if_eq hC 17 kX6_actsSet_7 (by decide) (fun h7 => ?_) (fun h7 => ?_)
  · refine V_iload_n hC kX6_actsSet_17 rfl ?_
    refine V_if_eq hC 25 kX6_actsSet_18 (by decide) (fun h18 => ?_) (fun h18 => absurd h18 (not_not_intro h7))
    refine V_iconst hC (-1) kX6_actsSet_25 (by decide) ?_
    refine V_ireti hC rfl kX6_actsSet_26 ?_
    first
      | (have hn := b0_of e_can h7; refine ⟨cI ?_, ?_⟩; rw [if_neg hn]; rw [if_neg hn, upr_self])
      | (have hp := b1_of e_can h7; refine ⟨cI ?_, ?_⟩; rw [if_pos hp]; rw [if_pos hp]; unfold ups tn; with_reducible rfl)
  · refine V_aload_n hC kX6_actsSet_10 rfl ?_
    refine V_getR hC hWr 6 1 lfX6_7 kX6_actsSet_11 (Nat.le_of_ble_eq_true rfl) (Nat.le_of_ble_eq_true rfl) rfl ?_
    refine V_iload_n hC kX6_actsSet_14 rfl ?_
    refine V_iload_n hC kX6_actsSet_15 rfl ?_
    refine V_iast hC _ rfl kX6_actsSet_16 (inn_vp (by decide) (b1_of e_can h7).1) ?_
    refine V_iload_n hC kX6_actsSet_17 rfl ?_
    refine V_if_eq hC 25 kX6_actsSet_18 (by decide) (fun h18 => absurd h18 h7) (fun h18 => ?_)
    refine V_iconst hC (0) kX6_actsSet_21 (by decide) ?_
    refine V_goto hC 26 kX6_actsSet_22 (by decide) ?_
    refine V_ireti hC rfl kX6_actsSet_26 ?_
    first
      | (have hn := b0_of e_can h7; refine ⟨cI ?_, ?_⟩; rw [if_neg hn]; rw [if_neg hn, upr_self])
      | (have hp := b1_of e_can h7; refine ⟨cI ?_, ?_⟩; rw [if_pos hp]; rw [if_pos hp]; unfold ups tn; with_reducible rfl)
def mtX6_actsTicks : Mt := (yX6_actsTicks, cX6_actsTicks, 2, (some .int), 8, 186, 0, 0)
theorem kX6_actsTicks_0 : Dk mtX6_actsTicks 0 (.iload_n 1) 1 1 := ⟨by decide +kernel, rfl⟩
theorem kX6_actsTicks_1 : Dk mtX6_actsTicks 1 (.iconst 1) 1 2 := ⟨by decide +kernel, rfl⟩
theorem kX6_actsTicks_2 : Dk mtX6_actsTicks 2 (.bipush 60) 2 4 := ⟨by decide +kernel, rfl⟩
theorem kX6_actsTicks_4 : Dk mtX6_actsTicks 4 (.invokestatic 39) 3 7 := ⟨by decide +kernel, rfl⟩
theorem kX6_actsTicks_7 : Dk mtX6_actsTicks 7 (.ifCond .eq 13) 3 10 := ⟨by decide +kernel, rfl⟩
theorem kX6_actsTicks_10 : Dk mtX6_actsTicks 10 (.aload_n 0) 1 11 := ⟨by decide +kernel, rfl⟩
theorem kX6_actsTicks_11 : Dk mtX6_actsTicks 11 (.iload_n 1) 1 12 := ⟨by decide +kernel, rfl⟩
theorem kX6_actsTicks_12 : Dk mtX6_actsTicks 12 (.bipush 7) 2 14 := ⟨by decide +kernel, rfl⟩
theorem kX6_actsTicks_14 : Dk mtX6_actsTicks 14 (.invokevirtual 124) 3 17 := ⟨by decide +kernel, rfl⟩
theorem kX6_actsTicks_17 : Dk mtX6_actsTicks 17 (.goto 4) 3 20 := ⟨by decide +kernel, rfl⟩
theorem kX6_actsTicks_20 : Dk mtX6_actsTicks 20 (.iconst (-1)) 1 21 := ⟨by decide +kernel, rfl⟩
theorem kX6_actsTicks_21 : Dk mtX6_actsTicks 21 (.ireturn) 1 22 := ⟨by decide +kernel, rfl⟩
theorem lmX6_124 : LkM RX6 124 mtX6_goesBy := Or.inl (by decide +kernel)
theorem mkX6_goesBy : MkV mtX6_goesBy 2 := ⟨List.mem_of_getElem? (i := 1177) (by decide +kernel), by decide +kernel, by decide +kernel, by decide +kernel, ⟨by decide +kernel, by decide +kernel, by decide +kernel⟩⟩
set_option maxHeartbeats 4000000 in
set_option maxRecDepth 100000 in
theorem ct_actsTicks {l : Launch} {w : Wd} {sg : Sg} (hWr : Wr w) {mo : Nat} (a : Int32) (hI : Inv (sg (mo + 1))) : M l mtX6_actsTicks w [vR (some (6, 0, mo)), vI a] sg (fI (if inn a 1 60 then F_ticks (sg (mo + 1)) (tn a) 7 - (sg (mo + 1)) 7 else -1) (upr sg (mo + 1) (if inn a 1 60 then F_ticks (sg (mo + 1)) (tn a) else (sg (mo + 1))))) := by
  refine M_of [some (vR (some (6, 0, mo))), some (vI a)] rfl (Nat.le_of_ble_eq_true rfl) (by decide +kernel) ?_
  intro p_ e_ s_ m_ args_ below_ meth_ c_ hC hO
  refine V_iload_n hC kX6_actsTicks_0 rfl ?_
  refine V_iconst hC (1) kX6_actsTicks_1 (by decide) ?_
  refine V_bipush hC (60) kX6_actsTicks_2 (by decide) ?_
  refine V_cS_fI hC (ct_in hWr _ _ _) mkX6_in lmX6_39 kX6_actsTicks_4 rfl rfl (Nat.le_of_ble_eq_true rfl) ⟨(Nat.le_of_ble_eq_true rfl), (Nat.le_of_ble_eq_true rfl)⟩ ⟨rfl, rfl⟩ ⟨(Nat.le_of_ble_eq_true rfl), (Nat.le_of_ble_eq_true rfl)⟩ ?_
  refine V_if_eq hC 20 kX6_actsTicks_7 (by decide) (fun h7 => ?_) (fun h7 => ?_)
  · refine V_iconst hC (-1) kX6_actsTicks_20 (by decide) ?_
    refine V_ireti hC rfl kX6_actsTicks_21 ?_
    first
      | (have hn := b01e.mp h7; refine ⟨cI ?_, ?_⟩; rw [if_neg hn]; rw [if_neg hn, upr_self])
      | (have et : tn (nI N) = N := nI_clamp (by omega); refine ⟨cI ?_, ?_⟩; rw [if_pos hp, et]; rw [if_pos hp, et])
  · have hp := b01n.mp h7
    obtain ⟨N, hN, ea⟩ : ∃ N, N ≤ 60 ∧ a = nI N := by
      have q1 := Int32.le_iff_toInt_le.mp hp.1
      have q2 := Int32.le_iff_toInt_le.mp hp.2
      have z1 : (1 : Int32).toInt = 1 := rfl
      have z2 : (60 : Int32).toInt = 60 := rfl
      obtain ⟨w1, w2⟩ := cnt_in (x := a) (n := 60) (by omega) (by omega)
      exact ⟨tn a, w1, w2⟩
    subst ea
    refine V_aload_n hC kX6_actsTicks_10 rfl ?_
    refine V_iload_n hC kX6_actsTicks_11 rfl ?_
    refine V_bipush hC (7) kX6_actsTicks_12 (by decide) ?_
    refine V_cV_fI hC (ct_goesBy (N := N) (j := 7) hWr hI (by omega) (by decide)) mkX6_goesBy lmX6_124 kX6_actsTicks_14 (Nat.le_of_ble_eq_true rfl) rfl rfl rfl (Nat.le_of_ble_eq_true rfl) ⟨(Nat.le_of_ble_eq_true rfl), (Nat.le_of_ble_eq_true rfl)⟩ ⟨rfl, rfl⟩ ⟨(Nat.le_of_ble_eq_true rfl), (Nat.le_of_ble_eq_true rfl)⟩ ?_
    refine V_goto hC 21 kX6_actsTicks_17 (by decide) ?_
    refine V_ireti hC rfl kX6_actsTicks_21 ?_
    first
      | (have hn := b01e.mp h7; refine ⟨cI ?_, ?_⟩; rw [if_neg hn]; rw [if_neg hn, upr_self])
      | (have et : tn (nI N) = N := nI_clamp (by omega); refine ⟨cI ?_, ?_⟩; rw [if_pos hp, et]; rw [if_pos hp, et])
def F_thatN (g : Gs) (what : Int32) : Nat → Int32
  | 0 => 0
  | n + 1 => F_thatN g what n + b01 (0 < gB g (nI n) (if what = 0 then 2 else 3))
def F_servedN (g : Gs) (a : Int32) : Nat → Int32
  | 0 => 0
  | n + 1 => F_servedN g a n ||| (if gB g (nI n) 2 = a + 1 then 1 <<< (nI n &&& 31) else 0)
def F_tells (g : Gs) (what : Int32) : Int32 := if what < 3 then g (tn (4 + what)) else if what < 5 then F_thatN g (what - 3) (tn (g 5)) else g (tn (7 + what - 5))
def mtX6_boatsThat : Mt := (yX6_boatsThat, cX6_boatsThat, 4, (some .int), 1, 22, 0, 0)
theorem kX6_boatsThat_0 : Dk mtX6_boatsThat 0 (.iconst 0) 1 1 := ⟨by decide +kernel, rfl⟩
theorem kX6_boatsThat_1 : Dk mtX6_boatsThat 1 (.istore_n 2) 1 2 := ⟨by decide +kernel, rfl⟩
theorem kX6_boatsThat_2 : Dk mtX6_boatsThat 2 (.iconst 0) 1 3 := ⟨by decide +kernel, rfl⟩
theorem kX6_boatsThat_3 : Dk mtX6_boatsThat 3 (.istore_n 3) 1 4 := ⟨by decide +kernel, rfl⟩
theorem kX6_boatsThat_4 : Dk mtX6_boatsThat 4 (.iload_n 3) 1 5 := ⟨by decide +kernel, rfl⟩
theorem kX6_boatsThat_5 : Dk mtX6_boatsThat 5 (.aload_n 0) 1 6 := ⟨by decide +kernel, rfl⟩
theorem kX6_boatsThat_6 : Dk mtX6_boatsThat 6 (.getfield 7) 3 9 := ⟨by decide +kernel, rfl⟩
theorem kX6_boatsThat_9 : Dk mtX6_boatsThat 9 (.iconst 5) 1 10 := ⟨by decide +kernel, rfl⟩
theorem kX6_boatsThat_10 : Dk mtX6_boatsThat 10 (.iaload) 1 11 := ⟨by decide +kernel, rfl⟩
theorem kX6_boatsThat_11 : Dk mtX6_boatsThat 11 (.if_icmp .ge 34) 3 14 := ⟨by decide +kernel, rfl⟩
theorem kX6_boatsThat_14 : Dk mtX6_boatsThat 14 (.iload_n 2) 1 15 := ⟨by decide +kernel, rfl⟩
theorem kX6_boatsThat_15 : Dk mtX6_boatsThat 15 (.aload_n 0) 1 16 := ⟨by decide +kernel, rfl⟩
theorem kX6_boatsThat_16 : Dk mtX6_boatsThat 16 (.iload_n 3) 1 17 := ⟨by decide +kernel, rfl⟩
theorem kX6_boatsThat_17 : Dk mtX6_boatsThat 17 (.iload_n 1) 1 18 := ⟨by decide +kernel, rfl⟩
theorem kX6_boatsThat_18 : Dk mtX6_boatsThat 18 (.ifCond .ne 7) 3 21 := ⟨by decide +kernel, rfl⟩
theorem kX6_boatsThat_21 : Dk mtX6_boatsThat 21 (.iconst 2) 1 22 := ⟨by decide +kernel, rfl⟩
theorem kX6_boatsThat_22 : Dk mtX6_boatsThat 22 (.goto 4) 3 25 := ⟨by decide +kernel, rfl⟩
theorem kX6_boatsThat_25 : Dk mtX6_boatsThat 25 (.iconst 3) 1 26 := ⟨by decide +kernel, rfl⟩
theorem kX6_boatsThat_26 : Dk mtX6_boatsThat 26 (.invokevirtual 53) 3 29 := ⟨by decide +kernel, rfl⟩
theorem kX6_boatsThat_29 : Dk mtX6_boatsThat 29 (.ifCond .le 7) 3 32 := ⟨by decide +kernel, rfl⟩
theorem kX6_boatsThat_32 : Dk mtX6_boatsThat 32 (.iconst 1) 1 33 := ⟨by decide +kernel, rfl⟩
theorem kX6_boatsThat_33 : Dk mtX6_boatsThat 33 (.goto 4) 3 36 := ⟨by decide +kernel, rfl⟩
theorem kX6_boatsThat_36 : Dk mtX6_boatsThat 36 (.iconst 0) 1 37 := ⟨by decide +kernel, rfl⟩
theorem kX6_boatsThat_37 : Dk mtX6_boatsThat 37 (.iadd) 1 38 := ⟨by decide +kernel, rfl⟩
theorem kX6_boatsThat_38 : Dk mtX6_boatsThat 38 (.istore_n 2) 1 39 := ⟨by decide +kernel, rfl⟩
theorem kX6_boatsThat_39 : Dk mtX6_boatsThat 39 (.iinc 3 1) 3 42 := ⟨by decide +kernel, rfl⟩
theorem kX6_boatsThat_42 : Dk mtX6_boatsThat 42 (.goto (-38)) 3 45 := ⟨by decide +kernel, rfl⟩
theorem kX6_boatsThat_45 : Dk mtX6_boatsThat 45 (.iload_n 2) 1 46 := ⟨by decide +kernel, rfl⟩
theorem kX6_boatsThat_46 : Dk mtX6_boatsThat 46 (.ireturn) 1 47 := ⟨by decide +kernel, rfl⟩
set_option maxHeartbeats 4000000 in
set_option maxRecDepth 100000 in
theorem ct_boatsThat {l : Launch} {w : Wd} {sg : Sg} (hWr : Wr w) {mo : Nat} (a : Int32) (hc : 0 ≤ (sg (mo + 1) 5).toInt ∧ (sg (mo + 1) 5).toInt ≤ 8) : M l mtX6_boatsThat w [vR (some (6, 0, mo)), vI a] sg (fI (F_thatN (sg (mo + 1)) a (tn ((sg (mo + 1)) 5))) sg) := by
  refine M_of [some (vR (some (6, 0, mo))), some (vI a), none, none] rfl (Nat.le_of_ble_eq_true rfl) (by decide +kernel) ?_
  intro p_ e_ s_ m_ args_ below_ meth_ c_ hC hO
  refine V_iconst hC (0) kX6_boatsThat_0 (by decide) ?_
  refine V_istore_n hC [some _, some _, some _, none] kX6_boatsThat_1 rfl (Nat.le_of_ble_eq_true rfl) ?_
  refine V_iconst hC (0) kX6_boatsThat_2 (by decide) ?_
  refine V_istore_n hC [some _, some _, some _, some _] kX6_boatsThat_3 rfl (Nat.le_of_ble_eq_true rfl) ?_
  refine V_loop (tn ((sg (mo + 1)) 5)) (fun i => [some (vR (some (6, 0, mo))), some (vI a), some (vI (F_thatN (sg (mo + 1)) a i)), some (vI (nI i))]) (fun i => sg) rfl rfl ?_ (fun i hi ihi => ?_)
  · refine V_iload_n hC kX6_boatsThat_4 rfl ?_
    refine V_aload_n hC kX6_boatsThat_5 rfl ?_
    refine V_getR hC hWr 6 1 lfX6_7 kX6_boatsThat_6 (Nat.le_of_ble_eq_true rfl) (Nat.le_of_ble_eq_true rfl) rfl ?_
    refine V_iconst hC (5) kX6_boatsThat_9 (by decide) ?_
    refine V_iald hC 5 rfl kX6_boatsThat_10 (vp_lit rfl) ?_
    refine V_icmp_ge hC 45 kX6_boatsThat_11 (by decide) (fun h11 => ?_) (fun h11 => absurd h11 (not_not_intro (cnt_le hc.1)))
    refine V_iload_n hC kX6_boatsThat_45 rfl ?_
    refine V_ireti hC rfl kX6_boatsThat_46 ?_
    refine ⟨cI ?_, by with_reducible rfl⟩
    with_reducible rfl
  · have hi8 : i < 8 := by have := (cnt_in (n := 8) hc.1 hc.2).1; omega
    refine V_iload_n hC kX6_boatsThat_4 rfl ?_
    refine V_aload_n hC kX6_boatsThat_5 rfl ?_
    refine V_getR hC hWr 6 1 lfX6_7 kX6_boatsThat_6 (Nat.le_of_ble_eq_true rfl) (Nat.le_of_ble_eq_true rfl) rfl ?_
    refine V_iconst hC (5) kX6_boatsThat_9 (by decide) ?_
    refine V_iald hC 5 rfl kX6_boatsThat_10 (vp_lit rfl) ?_
    refine V_icmp_ge hC 45 kX6_boatsThat_11 (by decide) (fun h11 => absurd h11 (cnt_lt hc.1 hi)) (fun h11 => ?_)
    refine V_iload_n hC kX6_boatsThat_14 rfl ?_
    refine V_join 37 (b01 (0 < gB (sg (mo + 1)) (nI i) (if a = 0 then 2 else 3))) ?_ (fun j37 => ?_)
    · refine V_iadd hC kX6_boatsThat_37 ?_
      refine V_istore_n hC [some _, some _, some _, some _] kX6_boatsThat_38 rfl (Nat.le_of_ble_eq_true rfl) ?_
      refine V_iinc hC (_ + 1) [some _, some _, some _, some _] kX6_boatsThat_39 rfl rfl rfl (Nat.le_of_ble_eq_true rfl) ?_
      refine V_goto hC 4 kX6_boatsThat_42 (by decide) ?_
      refine V_eq ?_ rfl ihi
      simp only [F_thatN, nI_succ]
    · refine V_aload_n hC kX6_boatsThat_15 rfl ?_
      refine V_iload_n hC kX6_boatsThat_16 rfl ?_
      refine V_join 26 (if a = 0 then 2 else 3) ?_ (fun j26 => ?_)
      · refine V_cV_fI hC (ct_ofBoat hWr (nI i) _ (vp_in_nI hi8 (by decide)) (by split <;> exact vp_lit rfl)) mkX6_ofBoat lmX6_53 kX6_boatsThat_26 (Nat.le_of_ble_eq_true rfl) rfl rfl rfl (Nat.le_of_ble_eq_true rfl) ⟨(Nat.le_of_ble_eq_true rfl), (Nat.le_of_ble_eq_true rfl)⟩ ⟨rfl, rfl⟩ ⟨(Nat.le_of_ble_eq_true rfl), (Nat.le_of_ble_eq_true rfl)⟩ ?_
        refine V_if_le hC 36 kX6_boatsThat_29 (by decide) (fun h29 => ?_) (fun h29 => ?_)
        · refine V_iconst hC (0) kX6_boatsThat_36 (by decide) ?_
          exact j37 _ ((b01_f (Int32.not_lt.mpr h29)).symm)
        · refine V_iconst hC (1) kX6_boatsThat_32 (by decide) ?_
          refine V_goto hC 37 kX6_boatsThat_33 (by decide) ?_
          exact j37 _ ((b01_t (Int32.not_le.mp h29)).symm)
      · refine V_iload_n hC kX6_boatsThat_17 rfl ?_
        refine V_if_ne hC 25 kX6_boatsThat_18 (by decide) (fun h18 => ?_) (fun h18 => ?_)
        · refine V_iconst hC (3) kX6_boatsThat_25 (by decide) ?_
          exact j26 _ ((if_neg h18).symm)
        · refine V_iconst hC (2) kX6_boatsThat_21 (by decide) ?_
          refine V_goto hC 26 kX6_boatsThat_22 (by decide) ?_
          exact j26 _ ((if_pos h18).symm)
def mtX6_servedBy : Mt := (yX6_servedBy, cX6_servedBy, 4, (some .int), 1, 22, 0, 0)
theorem kX6_servedBy_0 : Dk mtX6_servedBy 0 (.iconst 0) 1 1 := ⟨by decide +kernel, rfl⟩
theorem kX6_servedBy_1 : Dk mtX6_servedBy 1 (.istore_n 2) 1 2 := ⟨by decide +kernel, rfl⟩
theorem kX6_servedBy_2 : Dk mtX6_servedBy 2 (.iconst 0) 1 3 := ⟨by decide +kernel, rfl⟩
theorem kX6_servedBy_3 : Dk mtX6_servedBy 3 (.istore_n 3) 1 4 := ⟨by decide +kernel, rfl⟩
theorem kX6_servedBy_4 : Dk mtX6_servedBy 4 (.iload_n 3) 1 5 := ⟨by decide +kernel, rfl⟩
theorem kX6_servedBy_5 : Dk mtX6_servedBy 5 (.aload_n 0) 1 6 := ⟨by decide +kernel, rfl⟩
theorem kX6_servedBy_6 : Dk mtX6_servedBy 6 (.getfield 7) 3 9 := ⟨by decide +kernel, rfl⟩
theorem kX6_servedBy_9 : Dk mtX6_servedBy 9 (.iconst 5) 1 10 := ⟨by decide +kernel, rfl⟩
theorem kX6_servedBy_10 : Dk mtX6_servedBy 10 (.iaload) 1 11 := ⟨by decide +kernel, rfl⟩
theorem kX6_servedBy_11 : Dk mtX6_servedBy 11 (.if_icmp .ge 31) 3 14 := ⟨by decide +kernel, rfl⟩
theorem kX6_servedBy_14 : Dk mtX6_servedBy 14 (.iload_n 2) 1 15 := ⟨by decide +kernel, rfl⟩
theorem kX6_servedBy_15 : Dk mtX6_servedBy 15 (.aload_n 0) 1 16 := ⟨by decide +kernel, rfl⟩
theorem kX6_servedBy_16 : Dk mtX6_servedBy 16 (.iload_n 3) 1 17 := ⟨by decide +kernel, rfl⟩
theorem kX6_servedBy_17 : Dk mtX6_servedBy 17 (.iconst 2) 1 18 := ⟨by decide +kernel, rfl⟩
theorem kX6_servedBy_18 : Dk mtX6_servedBy 18 (.invokevirtual 53) 3 21 := ⟨by decide +kernel, rfl⟩
theorem kX6_servedBy_21 : Dk mtX6_servedBy 21 (.iload_n 1) 1 22 := ⟨by decide +kernel, rfl⟩
theorem kX6_servedBy_22 : Dk mtX6_servedBy 22 (.iconst 1) 1 23 := ⟨by decide +kernel, rfl⟩
theorem kX6_servedBy_23 : Dk mtX6_servedBy 23 (.iadd) 1 24 := ⟨by decide +kernel, rfl⟩
theorem kX6_servedBy_24 : Dk mtX6_servedBy 24 (.if_icmp .ne 9) 3 27 := ⟨by decide +kernel, rfl⟩
theorem kX6_servedBy_27 : Dk mtX6_servedBy 27 (.iconst 1) 1 28 := ⟨by decide +kernel, rfl⟩
theorem kX6_servedBy_28 : Dk mtX6_servedBy 28 (.iload_n 3) 1 29 := ⟨by decide +kernel, rfl⟩
theorem kX6_servedBy_29 : Dk mtX6_servedBy 29 (.ishl) 1 30 := ⟨by decide +kernel, rfl⟩
theorem kX6_servedBy_30 : Dk mtX6_servedBy 30 (.goto 4) 3 33 := ⟨by decide +kernel, rfl⟩
theorem kX6_servedBy_33 : Dk mtX6_servedBy 33 (.iconst 0) 1 34 := ⟨by decide +kernel, rfl⟩
theorem kX6_servedBy_34 : Dk mtX6_servedBy 34 (.ior) 1 35 := ⟨by decide +kernel, rfl⟩
theorem kX6_servedBy_35 : Dk mtX6_servedBy 35 (.istore_n 2) 1 36 := ⟨by decide +kernel, rfl⟩
theorem kX6_servedBy_36 : Dk mtX6_servedBy 36 (.iinc 3 1) 3 39 := ⟨by decide +kernel, rfl⟩
theorem kX6_servedBy_39 : Dk mtX6_servedBy 39 (.goto (-35)) 3 42 := ⟨by decide +kernel, rfl⟩
theorem kX6_servedBy_42 : Dk mtX6_servedBy 42 (.iload_n 2) 1 43 := ⟨by decide +kernel, rfl⟩
theorem kX6_servedBy_43 : Dk mtX6_servedBy 43 (.ireturn) 1 44 := ⟨by decide +kernel, rfl⟩
set_option maxHeartbeats 4000000 in
set_option maxRecDepth 100000 in
theorem ct_servedBy {l : Launch} {w : Wd} {sg : Sg} (hWr : Wr w) {mo : Nat} (a : Int32) (hc : 0 ≤ (sg (mo + 1) 5).toInt ∧ (sg (mo + 1) 5).toInt ≤ 8) : M l mtX6_servedBy w [vR (some (6, 0, mo)), vI a] sg (fI (F_servedN (sg (mo + 1)) a (tn ((sg (mo + 1)) 5))) sg) := by
  refine M_of [some (vR (some (6, 0, mo))), some (vI a), none, none] rfl (Nat.le_of_ble_eq_true rfl) (by decide +kernel) ?_
  intro p_ e_ s_ m_ args_ below_ meth_ c_ hC hO
  refine V_iconst hC (0) kX6_servedBy_0 (by decide) ?_
  refine V_istore_n hC [some _, some _, some _, none] kX6_servedBy_1 rfl (Nat.le_of_ble_eq_true rfl) ?_
  refine V_iconst hC (0) kX6_servedBy_2 (by decide) ?_
  refine V_istore_n hC [some _, some _, some _, some _] kX6_servedBy_3 rfl (Nat.le_of_ble_eq_true rfl) ?_
  refine V_loop (tn ((sg (mo + 1)) 5)) (fun i => [some (vR (some (6, 0, mo))), some (vI a), some (vI (F_servedN (sg (mo + 1)) a i)), some (vI (nI i))]) (fun i => sg) rfl rfl ?_ (fun i hi ihi => ?_)
  · refine V_iload_n hC kX6_servedBy_4 rfl ?_
    refine V_aload_n hC kX6_servedBy_5 rfl ?_
    refine V_getR hC hWr 6 1 lfX6_7 kX6_servedBy_6 (Nat.le_of_ble_eq_true rfl) (Nat.le_of_ble_eq_true rfl) rfl ?_
    refine V_iconst hC (5) kX6_servedBy_9 (by decide) ?_
    refine V_iald hC 5 rfl kX6_servedBy_10 (vp_lit rfl) ?_
    refine V_icmp_ge hC 42 kX6_servedBy_11 (by decide) (fun h11 => ?_) (fun h11 => absurd h11 (not_not_intro (cnt_le hc.1)))
    refine V_iload_n hC kX6_servedBy_42 rfl ?_
    refine V_ireti hC rfl kX6_servedBy_43 ?_
    refine ⟨cI ?_, by with_reducible rfl⟩
    with_reducible rfl
  · have hi8 : i < 8 := by have := (cnt_in (n := 8) hc.1 hc.2).1; omega
    refine V_iload_n hC kX6_servedBy_4 rfl ?_
    refine V_aload_n hC kX6_servedBy_5 rfl ?_
    refine V_getR hC hWr 6 1 lfX6_7 kX6_servedBy_6 (Nat.le_of_ble_eq_true rfl) (Nat.le_of_ble_eq_true rfl) rfl ?_
    refine V_iconst hC (5) kX6_servedBy_9 (by decide) ?_
    refine V_iald hC 5 rfl kX6_servedBy_10 (vp_lit rfl) ?_
    refine V_icmp_ge hC 42 kX6_servedBy_11 (by decide) (fun h11 => absurd h11 (cnt_lt hc.1 hi)) (fun h11 => ?_)
    refine V_iload_n hC kX6_servedBy_14 rfl ?_
    refine V_join 34 (if gB (sg (mo + 1)) (nI i) 2 = a + 1 then 1 <<< (nI i &&& 31) else 0) ?_ (fun j34 => ?_)
    · refine V_ior hC kX6_servedBy_34 ?_
      refine V_istore_n hC [some _, some _, some _, some _] kX6_servedBy_35 rfl (Nat.le_of_ble_eq_true rfl) ?_
      refine V_iinc hC (_ + 1) [some _, some _, some _, some _] kX6_servedBy_36 rfl rfl rfl (Nat.le_of_ble_eq_true rfl) ?_
      refine V_goto hC 4 kX6_servedBy_39 (by decide) ?_
      refine V_eq ?_ rfl ihi
      simp only [F_servedN, nI_succ]
    · refine V_aload_n hC kX6_servedBy_15 rfl ?_
      refine V_iload_n hC kX6_servedBy_16 rfl ?_
      refine V_iconst hC (2) kX6_servedBy_17 (by decide) ?_
      refine V_cV_fI hC (ct_ofBoat hWr (nI i) 2 (vp_in_nI hi8 (by decide)) (vp_lit rfl)) mkX6_ofBoat lmX6_53 kX6_servedBy_18 (Nat.le_of_ble_eq_true rfl) rfl rfl rfl (Nat.le_of_ble_eq_true rfl) ⟨(Nat.le_of_ble_eq_true rfl), (Nat.le_of_ble_eq_true rfl)⟩ ⟨rfl, rfl⟩ ⟨(Nat.le_of_ble_eq_true rfl), (Nat.le_of_ble_eq_true rfl)⟩ ?_
      refine V_iload_n hC kX6_servedBy_21 rfl ?_
      refine V_iconst hC (1) kX6_servedBy_22 (by decide) ?_
      refine V_iadd hC kX6_servedBy_23 ?_
      refine V_icmp_ne hC 33 kX6_servedBy_24 (by decide) (fun h24 => ?_) (fun h24 => ?_)
      · refine V_iconst hC (0) kX6_servedBy_33 (by decide) ?_
        exact j34 _ ((if_neg h24).symm)
      · refine V_iconst hC (1) kX6_servedBy_27 (by decide) ?_
        refine V_iload_n hC kX6_servedBy_28 rfl ?_
        refine V_ishl hC kX6_servedBy_29 ?_
        refine V_goto hC 34 kX6_servedBy_30 (by decide) ?_
        exact j34 _ ((if_pos h24).symm)
