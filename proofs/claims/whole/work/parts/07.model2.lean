-- HOW ct_in fI
-- HOW ct_fails fI
-- HOW ct_of fI
-- HOW ct_ofBoat fI
-- HOW ct_layBoat fV
-- HOW ct_isLight fI
-- HOW ct_isBoat fI
-- HOW ct_isPlace fI
-- HOW ct_bright fI
-- HOW ct_worth fI
-- HOW ct_serves fI
-- HOW ct_best fI
-- HOW ct_sails fV
-- HOW ct_drops fV
-- HOW ct_wished fI
-- HOW ct_hands fV
-- HOW ct_wishes fV
-- HOW ct_finds fV
-- HOW ct_goesOn fV
-- HOW ct_goesTick fV
-- HOW ct_goesBy fI
/-! the reference: its tick, second part -/
def mtX6_wishes : Mt := (yX6_wishes, cX6_wishes, 4, none, 4, 96, 0, 0)
theorem kX6_wishes_0 : Dk mtX6_wishes 0 (.aload_n 0) 1 1 := ⟨by decide +kernel, rfl⟩
theorem kX6_wishes_1 : Dk mtX6_wishes 1 (.iload_n 1) 1 2 := ⟨by decide +kernel, rfl⟩
theorem kX6_wishes_2 : Dk mtX6_wishes 2 (.invokevirtual 67) 3 5 := ⟨by decide +kernel, rfl⟩
theorem kX6_wishes_5 : Dk mtX6_wishes 5 (.istore_n 2) 1 6 := ⟨by decide +kernel, rfl⟩
theorem kX6_wishes_6 : Dk mtX6_wishes 6 (.iload_n 2) 1 7 := ⟨by decide +kernel, rfl⟩
theorem kX6_wishes_7 : Dk mtX6_wishes 7 (.iconst (-1)) 1 8 := ⟨by decide +kernel, rfl⟩
theorem kX6_wishes_8 : Dk mtX6_wishes 8 (.if_icmp .ne 7) 3 11 := ⟨by decide +kernel, rfl⟩
theorem kX6_wishes_11 : Dk mtX6_wishes 11 (.iconst 0) 1 12 := ⟨by decide +kernel, rfl⟩
theorem kX6_wishes_12 : Dk mtX6_wishes 12 (.goto 27) 3 15 := ⟨by decide +kernel, rfl⟩
theorem kX6_wishes_15 : Dk mtX6_wishes 15 (.iload_n 2) 1 16 := ⟨by decide +kernel, rfl⟩
theorem kX6_wishes_16 : Dk mtX6_wishes 16 (.iconst 1) 1 17 := ⟨by decide +kernel, rfl⟩
theorem kX6_wishes_17 : Dk mtX6_wishes 17 (.iadd) 1 18 := ⟨by decide +kernel, rfl⟩
theorem kX6_wishes_18 : Dk mtX6_wishes 18 (.aload_n 0) 1 19 := ⟨by decide +kernel, rfl⟩
theorem kX6_wishes_19 : Dk mtX6_wishes 19 (.iload_n 1) 1 20 := ⟨by decide +kernel, rfl⟩
theorem kX6_wishes_20 : Dk mtX6_wishes 20 (.iconst 4) 1 21 := ⟨by decide +kernel, rfl⟩
theorem kX6_wishes_21 : Dk mtX6_wishes 21 (.invokevirtual 53) 3 24 := ⟨by decide +kernel, rfl⟩
theorem kX6_wishes_24 : Dk mtX6_wishes 24 (.if_icmp .ne 14) 3 27 := ⟨by decide +kernel, rfl⟩
theorem kX6_wishes_27 : Dk mtX6_wishes 27 (.aload_n 0) 1 28 := ⟨by decide +kernel, rfl⟩
theorem kX6_wishes_28 : Dk mtX6_wishes 28 (.iload_n 1) 1 29 := ⟨by decide +kernel, rfl⟩
theorem kX6_wishes_29 : Dk mtX6_wishes 29 (.iconst 5) 1 30 := ⟨by decide +kernel, rfl⟩
theorem kX6_wishes_30 : Dk mtX6_wishes 30 (.invokevirtual 53) 3 33 := ⟨by decide +kernel, rfl⟩
theorem kX6_wishes_33 : Dk mtX6_wishes 33 (.iconst 1) 1 34 := ⟨by decide +kernel, rfl⟩
theorem kX6_wishes_34 : Dk mtX6_wishes 34 (.iadd) 1 35 := ⟨by decide +kernel, rfl⟩
theorem kX6_wishes_35 : Dk mtX6_wishes 35 (.goto 4) 3 38 := ⟨by decide +kernel, rfl⟩
theorem kX6_wishes_38 : Dk mtX6_wishes 38 (.iconst 1) 1 39 := ⟨by decide +kernel, rfl⟩
theorem kX6_wishes_39 : Dk mtX6_wishes 39 (.istore_n 3) 1 40 := ⟨by decide +kernel, rfl⟩
theorem kX6_wishes_40 : Dk mtX6_wishes 40 (.aload_n 0) 1 41 := ⟨by decide +kernel, rfl⟩
theorem kX6_wishes_41 : Dk mtX6_wishes 41 (.iload_n 1) 1 42 := ⟨by decide +kernel, rfl⟩
theorem kX6_wishes_42 : Dk mtX6_wishes 42 (.iconst 4) 1 43 := ⟨by decide +kernel, rfl⟩
theorem kX6_wishes_43 : Dk mtX6_wishes 43 (.iload_n 2) 1 44 := ⟨by decide +kernel, rfl⟩
theorem kX6_wishes_44 : Dk mtX6_wishes 44 (.iconst 1) 1 45 := ⟨by decide +kernel, rfl⟩
theorem kX6_wishes_45 : Dk mtX6_wishes 45 (.iadd) 1 46 := ⟨by decide +kernel, rfl⟩
theorem kX6_wishes_46 : Dk mtX6_wishes 46 (.invokevirtual 63) 3 49 := ⟨by decide +kernel, rfl⟩
theorem kX6_wishes_49 : Dk mtX6_wishes 49 (.aload_n 0) 1 50 := ⟨by decide +kernel, rfl⟩
theorem kX6_wishes_50 : Dk mtX6_wishes 50 (.iload_n 1) 1 51 := ⟨by decide +kernel, rfl⟩
theorem kX6_wishes_51 : Dk mtX6_wishes 51 (.iconst 5) 1 52 := ⟨by decide +kernel, rfl⟩
theorem kX6_wishes_52 : Dk mtX6_wishes 52 (.iload_n 3) 1 53 := ⟨by decide +kernel, rfl⟩
theorem kX6_wishes_53 : Dk mtX6_wishes 53 (.invokevirtual 63) 3 56 := ⟨by decide +kernel, rfl⟩
theorem kX6_wishes_56 : Dk mtX6_wishes 56 (.iload_n 2) 1 57 := ⟨by decide +kernel, rfl⟩
theorem kX6_wishes_57 : Dk mtX6_wishes 57 (.iconst (-1)) 1 58 := ⟨by decide +kernel, rfl⟩
theorem kX6_wishes_58 : Dk mtX6_wishes 58 (.if_icmp .eq 13) 3 61 := ⟨by decide +kernel, rfl⟩
theorem kX6_wishes_61 : Dk mtX6_wishes 61 (.iload_n 3) 1 62 := ⟨by decide +kernel, rfl⟩
theorem kX6_wishes_62 : Dk mtX6_wishes 62 (.aload_n 0) 1 63 := ⟨by decide +kernel, rfl⟩
theorem kX6_wishes_63 : Dk mtX6_wishes 63 (.getfield 7) 3 66 := ⟨by decide +kernel, rfl⟩
theorem kX6_wishes_66 : Dk mtX6_wishes 66 (.iconst 1) 1 67 := ⟨by decide +kernel, rfl⟩
theorem kX6_wishes_67 : Dk mtX6_wishes 67 (.iaload) 1 68 := ⟨by decide +kernel, rfl⟩
theorem kX6_wishes_68 : Dk mtX6_wishes 68 (.if_icmp .ge 4) 3 71 := ⟨by decide +kernel, rfl⟩
theorem kX6_wishes_71 : Dk mtX6_wishes 71 (.return_) 1 72 := ⟨by decide +kernel, rfl⟩
theorem kX6_wishes_72 : Dk mtX6_wishes 72 (.aload_n 0) 1 73 := ⟨by decide +kernel, rfl⟩
theorem kX6_wishes_73 : Dk mtX6_wishes 73 (.iload_n 2) 1 74 := ⟨by decide +kernel, rfl⟩
theorem kX6_wishes_74 : Dk mtX6_wishes 74 (.invokevirtual 71) 3 77 := ⟨by decide +kernel, rfl⟩
theorem kX6_wishes_77 : Dk mtX6_wishes 77 (.aload_n 0) 1 78 := ⟨by decide +kernel, rfl⟩
theorem kX6_wishes_78 : Dk mtX6_wishes 78 (.iload_n 2) 1 79 := ⟨by decide +kernel, rfl⟩
theorem kX6_wishes_79 : Dk mtX6_wishes 79 (.iconst 4) 1 80 := ⟨by decide +kernel, rfl⟩
theorem kX6_wishes_80 : Dk mtX6_wishes 80 (.invokevirtual 46) 3 83 := ⟨by decide +kernel, rfl⟩
theorem kX6_wishes_83 : Dk mtX6_wishes 83 (.if_icmp .ne 17) 3 86 := ⟨by decide +kernel, rfl⟩
theorem kX6_wishes_86 : Dk mtX6_wishes 86 (.aload_n 0) 1 87 := ⟨by decide +kernel, rfl⟩
theorem kX6_wishes_87 : Dk mtX6_wishes 87 (.getfield 7) 3 90 := ⟨by decide +kernel, rfl⟩
theorem kX6_wishes_90 : Dk mtX6_wishes 90 (.bipush 9) 2 92 := ⟨by decide +kernel, rfl⟩
theorem kX6_wishes_92 : Dk mtX6_wishes 92 (.dup2) 1 93 := ⟨by decide +kernel, rfl⟩
theorem kX6_wishes_93 : Dk mtX6_wishes 93 (.iaload) 1 94 := ⟨by decide +kernel, rfl⟩
theorem kX6_wishes_94 : Dk mtX6_wishes 94 (.iconst 1) 1 95 := ⟨by decide +kernel, rfl⟩
theorem kX6_wishes_95 : Dk mtX6_wishes 95 (.iadd) 1 96 := ⟨by decide +kernel, rfl⟩
theorem kX6_wishes_96 : Dk mtX6_wishes 96 (.iastore) 1 97 := ⟨by decide +kernel, rfl⟩
theorem kX6_wishes_97 : Dk mtX6_wishes 97 (.goto 9) 3 100 := ⟨by decide +kernel, rfl⟩
theorem kX6_wishes_100 : Dk mtX6_wishes 100 (.aload_n 0) 1 101 := ⟨by decide +kernel, rfl⟩
theorem kX6_wishes_101 : Dk mtX6_wishes 101 (.iload_n 1) 1 102 := ⟨by decide +kernel, rfl⟩
theorem kX6_wishes_102 : Dk mtX6_wishes 102 (.iload_n 2) 1 103 := ⟨by decide +kernel, rfl⟩
theorem kX6_wishes_103 : Dk mtX6_wishes 103 (.invokevirtual 74) 3 106 := ⟨by decide +kernel, rfl⟩
theorem kX6_wishes_106 : Dk mtX6_wishes 106 (.return_) 1 107 := ⟨by decide +kernel, rfl⟩
theorem lmX6_67 : LkM RX6 67 mtX6_wished := Or.inl (by decide +kernel)
theorem mkX6_wished : MkV mtX6_wished 1 := ⟨List.mem_of_getElem? (i := 1209) (by decide +kernel), by decide +kernel, by decide +kernel, by decide +kernel, ⟨by decide +kernel, by decide +kernel, by decide +kernel⟩⟩
theorem lmX6_71 : LkM RX6 71 mtX6_serves := Or.inl (by decide +kernel)
theorem mkX6_serves : MkV mtX6_serves 1 := ⟨List.mem_of_getElem? (i := 1217) (by decide +kernel), by decide +kernel, by decide +kernel, by decide +kernel, ⟨by decide +kernel, by decide +kernel, by decide +kernel⟩⟩
theorem lmX6_74 : LkM RX6 74 mtX6_hands := Or.inl (by decide +kernel)
theorem mkX6_hands : MkV mtX6_hands 2 := ⟨List.mem_of_getElem? (i := 1221) (by decide +kernel), by decide +kernel, by decide +kernel, by decide +kernel, ⟨by decide +kernel, by decide +kernel, by decide +kernel⟩⟩
set_option maxHeartbeats 4000000 in
set_option maxRecDepth 100000 in
theorem ct_wishes {l : Launch} {w : Wd} {sg : Sg} (hWr : Wr w) {mo n : Nat} (hI : Inv (sg (mo + 1))) (hn : n < tn (sg (mo + 1) 5)) (hby : ∃ j, j < tn (sg (mo + 1) 4) ∧ gB (sg (mo + 1)) (nI n) 2 - 1 = nI j) : M l mtX6_wishes w [vR (some (6, 0, mo)), vI (nI n)] sg (fV0 (upr sg (mo + 1) (F_wishes (sg (mo + 1)) (nI n)))) := by
  refine M_of [some (vR (some (6, 0, mo))), some (vI (nI n)), none, none] rfl (Nat.le_of_ble_eq_true rfl) (by decide +kernel) ?_
  intro p_ e_ s_ m_ args_ below_ meth_ c_ hC hO
  have h8 : n < 8 := by have := hI.c5.1; omega
  have hv8 : vp_in (nI n) 8 := vp_in_nI h8 (by decide)
  refine V_aload_n hC kX6_wishes_0 rfl ?_
  refine V_iload_n hC kX6_wishes_1 rfl ?_
  refine V_cV_fI hC (ct_wished hWr (nI n) hv8 hI.hc4 (fun j hj => hI.ne hj) hby) mkX6_wished lmX6_67 kX6_wishes_2 (Nat.le_of_ble_eq_true rfl) rfl rfl rfl (Nat.le_of_ble_eq_true rfl) ⟨(Nat.le_of_ble_eq_true rfl), (Nat.le_of_ble_eq_true rfl)⟩ ⟨rfl, rfl⟩ ⟨(Nat.le_of_ble_eq_true rfl), (Nat.le_of_ble_eq_true rfl)⟩ ?_
  refine V_nameI (fun wi e_wi => ?_)
  refine V_istore_n hC [some _, some _, some _, none] kX6_wishes_5 rfl (Nat.le_of_ble_eq_true rfl) ?_
  refine V_join 39 (F_wticks (sg (mo + 1)) (nI n) wi) ?_ (fun j39 => ?_)
  · refine V_nameI (fun tk e_tk => ?_)
    refine V_istore_n hC [some _, some _, some _, some _] kX6_wishes_39 rfl (Nat.le_of_ble_eq_true rfl) ?_
    refine V_aload_n hC kX6_wishes_40 rfl ?_
    refine V_iload_n hC kX6_wishes_41 rfl ?_
    refine V_iconst hC (4) kX6_wishes_42 (by decide) ?_
    refine V_iload_n hC kX6_wishes_43 rfl ?_
    refine V_iconst hC (1) kX6_wishes_44 (by decide) ?_
    refine V_iadd hC kX6_wishes_45 ?_
    refine V_cV_fV hC (ct_layBoat hWr (nI n) 4 _ hv8 (vp_lit rfl)) mkX6_layBoat lmX6_63 kX6_wishes_46 (Nat.le_of_ble_eq_true rfl) rfl rfl rfl (Nat.le_of_ble_eq_true rfl) ⟨(Nat.le_of_ble_eq_true rfl), (Nat.le_of_ble_eq_true rfl)⟩ ⟨rfl, rfl⟩ ⟨(Nat.le_of_ble_eq_true rfl), (Nat.le_of_ble_eq_true rfl)⟩ ?_
    refine V_aload_n hC kX6_wishes_49 rfl ?_
    refine V_iload_n hC kX6_wishes_50 rfl ?_
    refine V_iconst hC (5) kX6_wishes_51 (by decide) ?_
    refine V_iload_n hC kX6_wishes_52 rfl ?_
    refine V_cV_fV hC (ct_layBoat hWr (nI n) 5 _ hv8 (vp_lit rfl)) mkX6_layBoat lmX6_63 kX6_wishes_53 (Nat.le_of_ble_eq_true rfl) rfl rfl rfl (Nat.le_of_ble_eq_true rfl) ⟨(Nat.le_of_ble_eq_true rfl), (Nat.le_of_ble_eq_true rfl)⟩ ⟨rfl, rfl⟩ ⟨(Nat.le_of_ble_eq_true rfl), (Nat.le_of_ble_eq_true rfl)⟩ ?_
    refine V_canon (upr sg (mo + 1) (F_wishA (sg (mo + 1)) (nI n))) (by subst e_tk e_wi; simp only [upr_upr, upr_at, F_wishA]) ?_
    refine V_iload_n hC kX6_wishes_56 rfl ?_
    refine V_iconst hC (-1) kX6_wishes_57 (by decide) ?_
    refine V_icmp_eq hC 71 kX6_wishes_58 (by decide) (fun h58 => ?_) (fun h58 => ?_)
    · refine V_vret hC rfl kX6_wishes_71 ?_
      refine ⟨by with_reducible rfl, ?_⟩
      subst e_tk e_wi
      try simp only [upr_upr, upr_at, ups]
      unfold F_wishes
      first
        | (rw [if_pos (Or.inl h58)]; done)
        | (rw [if_pos (Or.inr (by rw [upr_at] at h68; exact Int32.not_le.mp h68))]; done)
        | (rw [if_neg (fun z => z.elim h58 (fun z => absurd z (Int32.not_lt.mpr (by rw [upr_at] at h68; exact h68)))), if_pos (by rw [upr_at] at h83; exact h83)]; unfold F_inc; with_reducible rfl)
        | (rw [if_neg (fun z => z.elim h58 (fun z => absurd z (Int32.not_lt.mpr (by rw [upr_at] at h68; exact h68)))), if_neg (by rw [upr_at] at h83; exact h83)])
    · refine V_iload_n hC kX6_wishes_61 rfl ?_
      refine V_aload_n hC kX6_wishes_62 rfl ?_
      refine V_getR hC hWr 6 1 lfX6_7 kX6_wishes_63 (Nat.le_of_ble_eq_true rfl) (Nat.le_of_ble_eq_true rfl) rfl ?_
      refine V_iconst hC (1) kX6_wishes_66 (by decide) ?_
      refine V_iald hC 1 rfl kX6_wishes_67 (vp_lit rfl) ?_
      refine V_icmp_ge hC 72 kX6_wishes_68 (by decide) (fun h68 => ?_) (fun h68 => ?_)
      · obtain ⟨jw, hjw, ejw⟩ : ∃ j, j < tn (sg (mo + 1) 4) ∧ wi = nI j := by
          rcases F_wishedN_in (sg (mo + 1)) (nI n) (tn (sg (mo + 1) 4)) with z | ⟨j, h1, h2⟩
          · exact absurd (e_wi.trans z) h58
          · exact ⟨j, h1, e_wi.trans h2⟩
        have hw6 : vp_in wi 6 := by rw [ejw]; exact vp_in_nI (by have := hI.c4.1; omega) (by decide)
        refine V_aload_n hC kX6_wishes_72 rfl ?_
        refine V_iload_n hC kX6_wishes_73 rfl ?_
        refine V_cV_fI hC (ct_serves hWr wi (by rw [upr_at, wishA_c h8 (Or.inl (by decide))]; exact hI.hc5)) mkX6_serves lmX6_71 kX6_wishes_74 (Nat.le_of_ble_eq_true rfl) rfl rfl rfl (Nat.le_of_ble_eq_true rfl) ⟨(Nat.le_of_ble_eq_true rfl), (Nat.le_of_ble_eq_true rfl)⟩ ⟨rfl, rfl⟩ ⟨(Nat.le_of_ble_eq_true rfl), (Nat.le_of_ble_eq_true rfl)⟩ ?_
        refine V_aload_n hC kX6_wishes_77 rfl ?_
        refine V_iload_n hC kX6_wishes_78 rfl ?_
        refine V_iconst hC (4) kX6_wishes_79 (by decide) ?_
        refine V_cV_fI hC (ct_of hWr wi 4 hw6 (vp_lit rfl)) mkX6_of lmX6_46 kX6_wishes_80 (Nat.le_of_ble_eq_true rfl) rfl rfl rfl (Nat.le_of_ble_eq_true rfl) ⟨(Nat.le_of_ble_eq_true rfl), (Nat.le_of_ble_eq_true rfl)⟩ ⟨rfl, rfl⟩ ⟨(Nat.le_of_ble_eq_true rfl), (Nat.le_of_ble_eq_true rfl)⟩ ?_
        refine V_icmp_ne hC 100 kX6_wishes_83 (by decide) (fun h83 => ?_) (fun h83 => ?_)
        · refine V_aload_n hC kX6_wishes_100 rfl ?_
          refine V_iload_n hC kX6_wishes_101 rfl ?_
          refine V_iload_n hC kX6_wishes_102 rfl ?_
          refine V_cV_fV hC (ct_hands hWr (nI n) wi hv8 hw6) mkX6_hands lmX6_74 kX6_wishes_103 (Nat.le_of_ble_eq_true rfl) rfl rfl rfl (Nat.le_of_ble_eq_true rfl) ⟨(Nat.le_of_ble_eq_true rfl), (Nat.le_of_ble_eq_true rfl)⟩ ⟨rfl, rfl⟩ ⟨(Nat.le_of_ble_eq_true rfl), (Nat.le_of_ble_eq_true rfl)⟩ ?_
          refine V_vret hC rfl kX6_wishes_106 ?_
          refine ⟨by with_reducible rfl, ?_⟩
          subst e_tk e_wi
          try simp only [upr_upr, upr_at, ups]
          unfold F_wishes
          first
            | (rw [if_pos (Or.inl h58)]; done)
            | (rw [if_pos (Or.inr (by rw [upr_at] at h68; exact Int32.not_le.mp h68))]; done)
            | (rw [if_neg (fun z => z.elim h58 (fun z => absurd z (Int32.not_lt.mpr (by rw [upr_at] at h68; exact h68)))), if_pos (by rw [upr_at] at h83; exact h83)]; unfold F_inc; with_reducible rfl)
            | (rw [if_neg (fun z => z.elim h58 (fun z => absurd z (Int32.not_lt.mpr (by rw [upr_at] at h68; exact h68)))), if_neg (by rw [upr_at] at h83; exact h83)])
        · refine V_aload_n hC kX6_wishes_86 rfl ?_
          refine V_getR hC hWr 6 1 lfX6_7 kX6_wishes_87 (Nat.le_of_ble_eq_true rfl) (Nat.le_of_ble_eq_true rfl) rfl ?_
          refine V_bipush hC (9) kX6_wishes_90 (by decide) ?_
          refine V_dup2 hC kX6_wishes_92 rfl rfl ?_
          refine V_iald hC 9 rfl kX6_wishes_93 (vp_lit rfl) ?_
          refine V_iconst hC (1) kX6_wishes_94 (by decide) ?_
          refine V_iadd hC kX6_wishes_95 ?_
          refine V_iast hC 9 rfl kX6_wishes_96 (vp_lit rfl) ?_
          refine V_goto hC 106 kX6_wishes_97 (by decide) ?_
          refine V_vret hC rfl kX6_wishes_106 ?_
          refine ⟨by with_reducible rfl, ?_⟩
          subst e_tk e_wi
          try simp only [upr_upr, upr_at, ups]
          unfold F_wishes
          first
            | (rw [if_pos (Or.inl h58)]; done)
            | (rw [if_pos (Or.inr (by rw [upr_at] at h68; exact Int32.not_le.mp h68))]; done)
            | (rw [if_neg (fun z => z.elim h58 (fun z => absurd z (Int32.not_lt.mpr (by rw [upr_at] at h68; exact h68)))), if_pos (by rw [upr_at] at h83; exact h83)]; unfold F_inc; with_reducible rfl)
            | (rw [if_neg (fun z => z.elim h58 (fun z => absurd z (Int32.not_lt.mpr (by rw [upr_at] at h68; exact h68)))), if_neg (by rw [upr_at] at h83; exact h83)])
      · refine V_vret hC rfl kX6_wishes_71 ?_
        refine ⟨by with_reducible rfl, ?_⟩
        subst e_tk e_wi
        try simp only [upr_upr, upr_at, ups]
        unfold F_wishes
        first
          | (rw [if_pos (Or.inl h58)]; done)
          | (rw [if_pos (Or.inr (by rw [upr_at] at h68; exact Int32.not_le.mp h68))]; done)
          | (rw [if_neg (fun z => z.elim h58 (fun z => absurd z (Int32.not_lt.mpr (by rw [upr_at] at h68; exact h68)))), if_pos (by rw [upr_at] at h83; exact h83)]; unfold F_inc; with_reducible rfl)
          | (rw [if_neg (fun z => z.elim h58 (fun z => absurd z (Int32.not_lt.mpr (by rw [upr_at] at h68; exact h68)))), if_neg (by rw [upr_at] at h83; exact h83)])
  · refine V_iload_n hC kX6_wishes_6 rfl ?_
    refine V_iconst hC (-1) kX6_wishes_7 (by decide) ?_
    refine V_icmp_ne hC 15 kX6_wishes_8 (by decide) (fun h8 => ?_) (fun h8 => ?_)
    · refine V_iload_n hC kX6_wishes_15 rfl ?_
      refine V_iconst hC (1) kX6_wishes_16 (by decide) ?_
      refine V_iadd hC kX6_wishes_17 ?_
      refine V_aload_n hC kX6_wishes_18 rfl ?_
      refine V_iload_n hC kX6_wishes_19 rfl ?_
      refine V_iconst hC (4) kX6_wishes_20 (by decide) ?_
      refine V_cV_fI hC (ct_ofBoat hWr (nI n) 4 hv8 (vp_lit rfl)) mkX6_ofBoat lmX6_53 kX6_wishes_21 (Nat.le_of_ble_eq_true rfl) rfl rfl rfl (Nat.le_of_ble_eq_true rfl) ⟨(Nat.le_of_ble_eq_true rfl), (Nat.le_of_ble_eq_true rfl)⟩ ⟨rfl, rfl⟩ ⟨(Nat.le_of_ble_eq_true rfl), (Nat.le_of_ble_eq_true rfl)⟩ ?_
      refine V_icmp_ne hC 38 kX6_wishes_24 (by decide) (fun h24 => ?_) (fun h24 => ?_)
      · refine V_iconst hC (1) kX6_wishes_38 (by decide) ?_
        exact j39 _ ((by rw [F_wticks, if_neg h8, if_neg h24]))
      · refine V_aload_n hC kX6_wishes_27 rfl ?_
        refine V_iload_n hC kX6_wishes_28 rfl ?_
        refine V_iconst hC (5) kX6_wishes_29 (by decide) ?_
        refine V_cV_fI hC (ct_ofBoat hWr (nI n) 5 hv8 (vp_lit rfl)) mkX6_ofBoat lmX6_53 kX6_wishes_30 (Nat.le_of_ble_eq_true rfl) rfl rfl rfl (Nat.le_of_ble_eq_true rfl) ⟨(Nat.le_of_ble_eq_true rfl), (Nat.le_of_ble_eq_true rfl)⟩ ⟨rfl, rfl⟩ ⟨(Nat.le_of_ble_eq_true rfl), (Nat.le_of_ble_eq_true rfl)⟩ ?_
        refine V_iconst hC (1) kX6_wishes_33 (by decide) ?_
        refine V_iadd hC kX6_wishes_34 ?_
        refine V_goto hC 39 kX6_wishes_35 (by decide) ?_
        exact j39 _ ((by rw [F_wticks, if_neg h8, if_pos h24]))
    · refine V_iconst hC (0) kX6_wishes_11 (by decide) ?_
      refine V_goto hC 39 kX6_wishes_12 (by decide) ?_
      exact j39 _ ((by rw [F_wticks, if_pos h8]))
def mtX6_finds : Mt := (yX6_finds, cX6_finds, 6, none, 3, 70, 0, 0)
theorem kX6_finds_0 : Dk mtX6_finds 0 (.aload_n 0) 1 1 := ⟨by decide +kernel, rfl⟩
theorem kX6_finds_1 : Dk mtX6_finds 1 (.iload_n 1) 1 2 := ⟨by decide +kernel, rfl⟩
theorem kX6_finds_2 : Dk mtX6_finds 2 (.iconst 0) 1 3 := ⟨by decide +kernel, rfl⟩
theorem kX6_finds_3 : Dk mtX6_finds 3 (.invokevirtual 53) 3 6 := ⟨by decide +kernel, rfl⟩
theorem kX6_finds_6 : Dk mtX6_finds 6 (.istore_n 2) 1 7 := ⟨by decide +kernel, rfl⟩
theorem kX6_finds_7 : Dk mtX6_finds 7 (.iconst (-1)) 1 8 := ⟨by decide +kernel, rfl⟩
theorem kX6_finds_8 : Dk mtX6_finds 8 (.istore_n 3) 1 9 := ⟨by decide +kernel, rfl⟩
theorem kX6_finds_9 : Dk mtX6_finds 9 (.iconst 0) 1 10 := ⟨by decide +kernel, rfl⟩
theorem kX6_finds_10 : Dk mtX6_finds 10 (.istore 4) 2 12 := ⟨by decide +kernel, rfl⟩
theorem kX6_finds_12 : Dk mtX6_finds 12 (.iload 4) 2 14 := ⟨by decide +kernel, rfl⟩
theorem kX6_finds_14 : Dk mtX6_finds 14 (.aload_n 0) 1 15 := ⟨by decide +kernel, rfl⟩
theorem kX6_finds_15 : Dk mtX6_finds 15 (.getfield 7) 3 18 := ⟨by decide +kernel, rfl⟩
theorem kX6_finds_18 : Dk mtX6_finds 18 (.iconst 4) 1 19 := ⟨by decide +kernel, rfl⟩
theorem kX6_finds_19 : Dk mtX6_finds 19 (.iaload) 1 20 := ⟨by decide +kernel, rfl⟩
theorem kX6_finds_20 : Dk mtX6_finds 20 (.if_icmp .ge 89) 3 23 := ⟨by decide +kernel, rfl⟩
theorem kX6_finds_23 : Dk mtX6_finds 23 (.aload_n 0) 1 24 := ⟨by decide +kernel, rfl⟩
theorem kX6_finds_24 : Dk mtX6_finds 24 (.iload 4) 2 26 := ⟨by decide +kernel, rfl⟩
theorem kX6_finds_26 : Dk mtX6_finds 26 (.iload_n 2) 1 27 := ⟨by decide +kernel, rfl⟩
theorem kX6_finds_27 : Dk mtX6_finds 27 (.invokevirtual 50) 3 30 := ⟨by decide +kernel, rfl⟩
theorem kX6_finds_30 : Dk mtX6_finds 30 (.aload_n 0) 1 31 := ⟨by decide +kernel, rfl⟩
theorem kX6_finds_31 : Dk mtX6_finds 31 (.getfield 7) 3 34 := ⟨by decide +kernel, rfl⟩
theorem kX6_finds_34 : Dk mtX6_finds 34 (.iconst 2) 1 35 := ⟨by decide +kernel, rfl⟩
theorem kX6_finds_35 : Dk mtX6_finds 35 (.iaload) 1 36 := ⟨by decide +kernel, rfl⟩
theorem kX6_finds_36 : Dk mtX6_finds 36 (.if_icmp .lt 31) 3 39 := ⟨by decide +kernel, rfl⟩
theorem kX6_finds_39 : Dk mtX6_finds 39 (.aload_n 0) 1 40 := ⟨by decide +kernel, rfl⟩
theorem kX6_finds_40 : Dk mtX6_finds 40 (.iload 4) 2 42 := ⟨by decide +kernel, rfl⟩
theorem kX6_finds_42 : Dk mtX6_finds 42 (.invokevirtual 71) 3 45 := ⟨by decide +kernel, rfl⟩
theorem kX6_finds_45 : Dk mtX6_finds 45 (.aload_n 0) 1 46 := ⟨by decide +kernel, rfl⟩
theorem kX6_finds_46 : Dk mtX6_finds 46 (.iload 4) 2 48 := ⟨by decide +kernel, rfl⟩
theorem kX6_finds_48 : Dk mtX6_finds 48 (.iconst 4) 1 49 := ⟨by decide +kernel, rfl⟩
theorem kX6_finds_49 : Dk mtX6_finds 49 (.invokevirtual 46) 3 52 := ⟨by decide +kernel, rfl⟩
theorem kX6_finds_52 : Dk mtX6_finds 52 (.aload_n 0) 1 53 := ⟨by decide +kernel, rfl⟩
theorem kX6_finds_53 : Dk mtX6_finds 53 (.iload 4) 2 55 := ⟨by decide +kernel, rfl⟩
theorem kX6_finds_55 : Dk mtX6_finds 55 (.iconst 5) 1 56 := ⟨by decide +kernel, rfl⟩
theorem kX6_finds_56 : Dk mtX6_finds 56 (.invokevirtual 46) 3 59 := ⟨by decide +kernel, rfl⟩
theorem kX6_finds_59 : Dk mtX6_finds 59 (.isub) 1 60 := ⟨by decide +kernel, rfl⟩
theorem kX6_finds_60 : Dk mtX6_finds 60 (.if_icmp .ge 7) 3 63 := ⟨by decide +kernel, rfl⟩
theorem kX6_finds_63 : Dk mtX6_finds 63 (.iconst 1) 1 64 := ⟨by decide +kernel, rfl⟩
theorem kX6_finds_64 : Dk mtX6_finds 64 (.goto 4) 3 67 := ⟨by decide +kernel, rfl⟩
theorem kX6_finds_67 : Dk mtX6_finds 67 (.iconst 0) 1 68 := ⟨by decide +kernel, rfl⟩
theorem kX6_finds_68 : Dk mtX6_finds 68 (.istore 5) 2 70 := ⟨by decide +kernel, rfl⟩
theorem kX6_finds_70 : Dk mtX6_finds 70 (.iload 5) 2 72 := ⟨by decide +kernel, rfl⟩
theorem kX6_finds_72 : Dk mtX6_finds 72 (.ifCond .eq 29) 3 75 := ⟨by decide +kernel, rfl⟩
theorem kX6_finds_75 : Dk mtX6_finds 75 (.iload_n 3) 1 76 := ⟨by decide +kernel, rfl⟩
theorem kX6_finds_76 : Dk mtX6_finds 76 (.iconst (-1)) 1 77 := ⟨by decide +kernel, rfl⟩
theorem kX6_finds_77 : Dk mtX6_finds 77 (.if_icmp .eq 19) 3 80 := ⟨by decide +kernel, rfl⟩
theorem kX6_finds_80 : Dk mtX6_finds 80 (.aload_n 0) 1 81 := ⟨by decide +kernel, rfl⟩
theorem kX6_finds_81 : Dk mtX6_finds 81 (.iload 4) 2 83 := ⟨by decide +kernel, rfl⟩
theorem kX6_finds_83 : Dk mtX6_finds 83 (.iload_n 2) 1 84 := ⟨by decide +kernel, rfl⟩
theorem kX6_finds_84 : Dk mtX6_finds 84 (.invokevirtual 56) 3 87 := ⟨by decide +kernel, rfl⟩
theorem kX6_finds_87 : Dk mtX6_finds 87 (.aload_n 0) 1 88 := ⟨by decide +kernel, rfl⟩
theorem kX6_finds_88 : Dk mtX6_finds 88 (.iload_n 3) 1 89 := ⟨by decide +kernel, rfl⟩
theorem kX6_finds_89 : Dk mtX6_finds 89 (.iload_n 2) 1 90 := ⟨by decide +kernel, rfl⟩
theorem kX6_finds_90 : Dk mtX6_finds 90 (.invokevirtual 56) 3 93 := ⟨by decide +kernel, rfl⟩
theorem kX6_finds_93 : Dk mtX6_finds 93 (.if_icmp .le 8) 3 96 := ⟨by decide +kernel, rfl⟩
theorem kX6_finds_96 : Dk mtX6_finds 96 (.iload 4) 2 98 := ⟨by decide +kernel, rfl⟩
theorem kX6_finds_98 : Dk mtX6_finds 98 (.goto 4) 3 101 := ⟨by decide +kernel, rfl⟩
theorem kX6_finds_101 : Dk mtX6_finds 101 (.iload_n 3) 1 102 := ⟨by decide +kernel, rfl⟩
theorem kX6_finds_102 : Dk mtX6_finds 102 (.istore_n 3) 1 103 := ⟨by decide +kernel, rfl⟩
theorem kX6_finds_103 : Dk mtX6_finds 103 (.iinc 4 1) 3 106 := ⟨by decide +kernel, rfl⟩
theorem kX6_finds_106 : Dk mtX6_finds 106 (.goto (-94)) 3 109 := ⟨by decide +kernel, rfl⟩
theorem kX6_finds_109 : Dk mtX6_finds 109 (.aload_n 0) 1 110 := ⟨by decide +kernel, rfl⟩
theorem kX6_finds_110 : Dk mtX6_finds 110 (.iload_n 1) 1 111 := ⟨by decide +kernel, rfl⟩
theorem kX6_finds_111 : Dk mtX6_finds 111 (.iconst 2) 1 112 := ⟨by decide +kernel, rfl⟩
theorem kX6_finds_112 : Dk mtX6_finds 112 (.iload_n 3) 1 113 := ⟨by decide +kernel, rfl⟩
theorem kX6_finds_113 : Dk mtX6_finds 113 (.iconst 1) 1 114 := ⟨by decide +kernel, rfl⟩
theorem kX6_finds_114 : Dk mtX6_finds 114 (.iadd) 1 115 := ⟨by decide +kernel, rfl⟩
theorem kX6_finds_115 : Dk mtX6_finds 115 (.invokevirtual 63) 3 118 := ⟨by decide +kernel, rfl⟩
theorem kX6_finds_118 : Dk mtX6_finds 118 (.aload_n 0) 1 119 := ⟨by decide +kernel, rfl⟩
theorem kX6_finds_119 : Dk mtX6_finds 119 (.getfield 7) 3 122 := ⟨by decide +kernel, rfl⟩
theorem kX6_finds_122 : Dk mtX6_finds 122 (.bipush 11) 2 124 := ⟨by decide +kernel, rfl⟩
theorem kX6_finds_124 : Dk mtX6_finds 124 (.dup2) 1 125 := ⟨by decide +kernel, rfl⟩
theorem kX6_finds_125 : Dk mtX6_finds 125 (.iaload) 1 126 := ⟨by decide +kernel, rfl⟩
theorem kX6_finds_126 : Dk mtX6_finds 126 (.iload_n 3) 1 127 := ⟨by decide +kernel, rfl⟩
theorem kX6_finds_127 : Dk mtX6_finds 127 (.iconst (-1)) 1 128 := ⟨by decide +kernel, rfl⟩
theorem kX6_finds_128 : Dk mtX6_finds 128 (.if_icmp .ne 7) 3 131 := ⟨by decide +kernel, rfl⟩
theorem kX6_finds_131 : Dk mtX6_finds 131 (.iconst 0) 1 132 := ⟨by decide +kernel, rfl⟩
theorem kX6_finds_132 : Dk mtX6_finds 132 (.goto 4) 3 135 := ⟨by decide +kernel, rfl⟩
theorem kX6_finds_135 : Dk mtX6_finds 135 (.iconst 1) 1 136 := ⟨by decide +kernel, rfl⟩
theorem kX6_finds_136 : Dk mtX6_finds 136 (.iadd) 1 137 := ⟨by decide +kernel, rfl⟩
theorem kX6_finds_137 : Dk mtX6_finds 137 (.iastore) 1 138 := ⟨by decide +kernel, rfl⟩
theorem kX6_finds_138 : Dk mtX6_finds 138 (.return_) 1 139 := ⟨by decide +kernel, rfl⟩
set_option maxHeartbeats 4000000 in
set_option maxRecDepth 100000 in
theorem ct_finds {l : Launch} {w : Wd} {sg : Sg} (hWr : Wr w) {mo n : Nat} (hI : Inv (sg (mo + 1))) (hn : n < tn (sg (mo + 1) 5)) : M l mtX6_finds w [vR (some (6, 0, mo)), vI (nI n)] sg (fV0 (upr sg (mo + 1) (F_finds (sg (mo + 1)) (nI n)))) := by
  refine M_of [some (vR (some (6, 0, mo))), some (vI (nI n)), none, none, none, none] rfl (Nat.le_of_ble_eq_true rfl) (by decide +kernel) ?_
  intro p_ e_ s_ m_ args_ below_ meth_ c_ hC hO
  have h8 : n < 8 := by have := hI.c5.1; omega
  have hv8 : vp_in (nI n) 8 := vp_in_nI h8 (by decide)
  refine V_aload_n hC kX6_finds_0 rfl ?_
  refine V_iload_n hC kX6_finds_1 rfl ?_
  refine V_iconst hC (0) kX6_finds_2 (by decide) ?_
  refine V_cV_fI hC (ct_ofBoat hWr (nI n) 0 hv8 (vp_lit rfl)) mkX6_ofBoat lmX6_53 kX6_finds_3 (Nat.le_of_ble_eq_true rfl) rfl rfl rfl (Nat.le_of_ble_eq_true rfl) ⟨(Nat.le_of_ble_eq_true rfl), (Nat.le_of_ble_eq_true rfl)⟩ ⟨rfl, rfl⟩ ⟨(Nat.le_of_ble_eq_true rfl), (Nat.le_of_ble_eq_true rfl)⟩ ?_
  refine V_nameI (fun pl e_pl => ?_)
  refine V_istore_n hC [some _, some _, some _, none, none, none] kX6_finds_6 rfl (Nat.le_of_ble_eq_true rfl) ?_
  refine V_iconst hC (-1) kX6_finds_7 (by decide) ?_
  refine V_istore_n hC [some _, some _, some _, some _, none, none] kX6_finds_8 rfl (Nat.le_of_ble_eq_true rfl) ?_
  refine V_iconst hC (0) kX6_finds_9 (by decide) ?_
  refine V_istore hC [some _, some _, some _, some _, some _, none] kX6_finds_10 rfl (Nat.le_of_ble_eq_true rfl) ?_
  refine V_loop (tn ((sg (mo + 1)) 4)) (fun i => [some (vR (some (6, 0, mo))), some (vI (nI n)), some (vI pl), some (vI (F_findsN (sg (mo + 1)) (nI n) i)), some (vI (nI i)), none]) (fun i => sg) rfl rfl ?_ (fun i hi ihi => ?_)
  · refine V_iload hC kX6_finds_12 rfl ?_
    refine V_aload_n hC kX6_finds_14 rfl ?_
    refine V_getR hC hWr 6 1 lfX6_7 kX6_finds_15 (Nat.le_of_ble_eq_true rfl) (Nat.le_of_ble_eq_true rfl) rfl ?_
    refine V_iconst hC (4) kX6_finds_18 (by decide) ?_
    refine V_iald hC 4 rfl kX6_finds_19 (vp_lit rfl) ?_
    refine V_icmp_ge hC 109 kX6_finds_20 (by decide) (fun h20 => ?_) (fun h20 => absurd h20 (not_not_intro (cnt_le hI.hc4.1)))
    refine V_aload_n hC kX6_finds_109 rfl ?_
    refine V_iload_n hC kX6_finds_110 rfl ?_
    refine V_iconst hC (2) kX6_finds_111 (by decide) ?_
    refine V_iload_n hC kX6_finds_112 rfl ?_
    refine V_iconst hC (1) kX6_finds_113 (by decide) ?_
    refine V_iadd hC kX6_finds_114 ?_
    refine V_cV_fV hC (ct_layBoat hWr (nI n) 2 _ hv8 (vp_lit rfl)) mkX6_layBoat lmX6_63 kX6_finds_115 (Nat.le_of_ble_eq_true rfl) rfl rfl rfl (Nat.le_of_ble_eq_true rfl) ⟨(Nat.le_of_ble_eq_true rfl), (Nat.le_of_ble_eq_true rfl)⟩ ⟨rfl, rfl⟩ ⟨(Nat.le_of_ble_eq_true rfl), (Nat.le_of_ble_eq_true rfl)⟩ ?_
    refine V_aload_n hC kX6_finds_118 rfl ?_
    refine V_getR hC hWr 6 1 lfX6_7 kX6_finds_119 (Nat.le_of_ble_eq_true rfl) (Nat.le_of_ble_eq_true rfl) rfl ?_
    refine V_bipush hC (11) kX6_finds_122 (by decide) ?_
    refine V_dup2 hC kX6_finds_124 rfl rfl ?_
    refine V_iald hC 11 rfl kX6_finds_125 (vp_lit rfl) ?_
    refine V_join 136 (if F_findsN (sg (mo + 1)) (nI n) (tn ((sg (mo + 1)) 4)) = -1 then 0 else 1) ?_ (fun j136 => ?_)
    · refine V_iadd hC kX6_finds_136 ?_
      refine V_iast hC 11 rfl kX6_finds_137 (vp_lit rfl) ?_
      refine V_vret hC rfl kX6_finds_138 ?_
      refine ⟨by with_reducible rfl, ?_⟩
      unfold F_finds
      simp only [upr_upr, upr_at, ups]
    · refine V_iload_n hC kX6_finds_126 rfl ?_
      refine V_iconst hC (-1) kX6_finds_127 (by decide) ?_
      refine V_icmp_ne hC 135 kX6_finds_128 (by decide) (fun h128 => ?_) (fun h128 => ?_)
      · refine V_iconst hC (1) kX6_finds_135 (by decide) ?_
        exact j136 _ ((if_neg h128).symm)
      · refine V_iconst hC (0) kX6_finds_131 (by decide) ?_
        refine V_goto hC 136 kX6_finds_132 (by decide) ?_
        exact j136 _ ((if_pos h128).symm)
  · have hi6 := hI.c4.1
    have hbi : ¬ F_findsN (sg (mo + 1)) (nI n) i = -1 → ∃ j, j < tn (sg (mo + 1) 4) ∧ F_findsN (sg (mo + 1)) (nI n) i = nI j := fun z => by
      rcases F_findsN_in (sg (mo + 1)) (nI n) i with h | ⟨j, h1, h2⟩
      · exact absurd h z
      · exact ⟨j, by omega, h2⟩
    refine V_iload hC kX6_finds_12 rfl ?_
    refine V_aload_n hC kX6_finds_14 rfl ?_
    refine V_getR hC hWr 6 1 lfX6_7 kX6_finds_15 (Nat.le_of_ble_eq_true rfl) (Nat.le_of_ble_eq_true rfl) rfl ?_
    refine V_iconst hC (4) kX6_finds_18 (by decide) ?_
    refine V_iald hC 4 rfl kX6_finds_19 (vp_lit rfl) ?_
    refine V_icmp_ge hC 109 kX6_finds_20 (by decide) (fun h20 => absurd h20 (cnt_lt hI.hc4.1 hi)) (fun h20 => ?_)
    refine V_join 68 (b01 ((sg (mo + 1)) 2 ≤ F_bright (sg (mo + 1)) (nI i) pl ∧ F_serves (sg (mo + 1)) (nI i) < gL (sg (mo + 1)) (nI i) 4 - gL (sg (mo + 1)) (nI i) 5)) ?_ (fun j68 => ?_)
    · refine V_nameI (fun can e_can => ?_)
      refine V_istore hC [some _, some _, some _, some _, some _, some _] kX6_finds_68 rfl (Nat.le_of_ble_eq_true rfl) ?_
      refine V_join 102 (F_findsN (sg (mo + 1)) (nI n) (i + 1)) ?_ (fun j102 => ?_)
      · refine V_istore_n hC [some _, some _, some _, some _, some _, some _] kX6_finds_102 rfl (Nat.le_of_ble_eq_true rfl) ?_
        refine V_iinc hC (_ + 1) [some _, some _, some _, some _, some _, some _] kX6_finds_103 rfl rfl rfl (Nat.le_of_ble_eq_true rfl) ?_
        refine V_goto hC 12 kX6_finds_106 (by decide) ?_
        refine V_drop 5 [_, _, _, _, _, none] rfl ?_
        refine V_eq ?_ rfl ihi
        simp only [nI_succ]
      · refine V_iload hC kX6_finds_70 rfl ?_
        refine V_if_eq hC 101 kX6_finds_72 (by decide) (fun h72 => ?_) (fun h72 => ?_)
        · refine V_iload_n hC kX6_finds_101 rfl ?_
          exact j102 _ ((by subst e_pl; rw [F_findsN, if_neg (fun z => (b0_of e_can h72) z.1)]))
        · refine V_iload_n hC kX6_finds_75 rfl ?_
          refine V_iconst hC (-1) kX6_finds_76 (by decide) ?_
          refine V_icmp_eq hC 96 kX6_finds_77 (by decide) (fun h77 => ?_) (fun h77 => ?_)
          · refine V_iload hC kX6_finds_96 rfl ?_
            refine V_goto hC 102 kX6_finds_98 (by decide) ?_
            exact j102 _ ((by subst e_pl; rw [F_findsN, if_pos ⟨b1_of e_can h72, Or.inl h77⟩]))
          · obtain ⟨jb, hjb, ejb⟩ := hbi h77
            refine V_aload_n hC kX6_finds_80 rfl ?_
            refine V_iload hC kX6_finds_81 rfl ?_
            refine V_iload_n hC kX6_finds_83 rfl ?_
            refine V_cV_fI hC (ct_worth hWr (nI i) pl (vp_in_nI (by omega) (by decide)) (fun _ => hI.ne hi)) mkX6_worth lmX6_56 kX6_finds_84 (Nat.le_of_ble_eq_true rfl) rfl rfl rfl (Nat.le_of_ble_eq_true rfl) ⟨(Nat.le_of_ble_eq_true rfl), (Nat.le_of_ble_eq_true rfl)⟩ ⟨rfl, rfl⟩ ⟨(Nat.le_of_ble_eq_true rfl), (Nat.le_of_ble_eq_true rfl)⟩ ?_
            refine V_aload_n hC kX6_finds_87 rfl ?_
            refine V_iload_n hC kX6_finds_88 rfl ?_
            refine V_iload_n hC kX6_finds_89 rfl ?_
            refine V_cV_fI hC (ct_worth hWr _ pl (by rw [ejb]; exact vp_in_nI (by omega) (by decide)) (fun _ => by rw [ejb]; exact hI.ne hjb)) mkX6_worth lmX6_56 kX6_finds_90 (Nat.le_of_ble_eq_true rfl) rfl rfl rfl (Nat.le_of_ble_eq_true rfl) ⟨(Nat.le_of_ble_eq_true rfl), (Nat.le_of_ble_eq_true rfl)⟩ ⟨rfl, rfl⟩ ⟨(Nat.le_of_ble_eq_true rfl), (Nat.le_of_ble_eq_true rfl)⟩ ?_
            refine V_icmp_le hC 101 kX6_finds_93 (by decide) (fun h93 => ?_) (fun h93 => ?_)
            · refine V_iload_n hC kX6_finds_101 rfl ?_
              exact j102 _ ((by subst e_pl; rw [F_findsN, if_neg (fun z => z.2.elim h77 (fun z => absurd z (Int32.not_lt.mpr h93)))]))
            · refine V_iload hC kX6_finds_96 rfl ?_
              refine V_goto hC 102 kX6_finds_98 (by decide) ?_
              exact j102 _ ((by subst e_pl; rw [F_findsN, if_pos ⟨b1_of e_can h72, Or.inr (Int32.not_le.mp h93)⟩]))
    · refine V_aload_n hC kX6_finds_23 rfl ?_
      refine V_iload hC kX6_finds_24 rfl ?_
      refine V_iload_n hC kX6_finds_26 rfl ?_
      refine V_cV_fI hC (ct_bright hWr (nI i) pl (vp_in_nI (by omega) (by decide)) (fun _ => hI.ne hi)) mkX6_bright lmX6_50 kX6_finds_27 (Nat.le_of_ble_eq_true rfl) rfl rfl rfl (Nat.le_of_ble_eq_true rfl) ⟨(Nat.le_of_ble_eq_true rfl), (Nat.le_of_ble_eq_true rfl)⟩ ⟨rfl, rfl⟩ ⟨(Nat.le_of_ble_eq_true rfl), (Nat.le_of_ble_eq_true rfl)⟩ ?_
      refine V_aload_n hC kX6_finds_30 rfl ?_
      refine V_getR hC hWr 6 1 lfX6_7 kX6_finds_31 (Nat.le_of_ble_eq_true rfl) (Nat.le_of_ble_eq_true rfl) rfl ?_
      refine V_iconst hC (2) kX6_finds_34 (by decide) ?_
      refine V_iald hC 2 rfl kX6_finds_35 (vp_lit rfl) ?_
      refine V_icmp_lt hC 67 kX6_finds_36 (by decide) (fun h36 => ?_) (fun h36 => ?_)
      · refine V_iconst hC (0) kX6_finds_67 (by decide) ?_
        exact j68 _ ((b01_f (fun z => absurd z.1 (Int32.not_le.mpr h36))).symm)
      · refine V_aload_n hC kX6_finds_39 rfl ?_
        refine V_iload hC kX6_finds_40 rfl ?_
        refine V_cV_fI hC (ct_serves hWr (nI i) hI.hc5) mkX6_serves lmX6_71 kX6_finds_42 (Nat.le_of_ble_eq_true rfl) rfl rfl rfl (Nat.le_of_ble_eq_true rfl) ⟨(Nat.le_of_ble_eq_true rfl), (Nat.le_of_ble_eq_true rfl)⟩ ⟨rfl, rfl⟩ ⟨(Nat.le_of_ble_eq_true rfl), (Nat.le_of_ble_eq_true rfl)⟩ ?_
        refine V_aload_n hC kX6_finds_45 rfl ?_
        refine V_iload hC kX6_finds_46 rfl ?_
        refine V_iconst hC (4) kX6_finds_48 (by decide) ?_
        refine V_cV_fI hC (ct_of hWr (nI i) 4 (vp_in_nI (by omega) (by decide)) (vp_lit rfl)) mkX6_of lmX6_46 kX6_finds_49 (Nat.le_of_ble_eq_true rfl) rfl rfl rfl (Nat.le_of_ble_eq_true rfl) ⟨(Nat.le_of_ble_eq_true rfl), (Nat.le_of_ble_eq_true rfl)⟩ ⟨rfl, rfl⟩ ⟨(Nat.le_of_ble_eq_true rfl), (Nat.le_of_ble_eq_true rfl)⟩ ?_
        refine V_aload_n hC kX6_finds_52 rfl ?_
        refine V_iload hC kX6_finds_53 rfl ?_
        refine V_iconst hC (5) kX6_finds_55 (by decide) ?_
        refine V_cV_fI hC (ct_of hWr (nI i) 5 (vp_in_nI (by omega) (by decide)) (vp_lit rfl)) mkX6_of lmX6_46 kX6_finds_56 (Nat.le_of_ble_eq_true rfl) rfl rfl rfl (Nat.le_of_ble_eq_true rfl) ⟨(Nat.le_of_ble_eq_true rfl), (Nat.le_of_ble_eq_true rfl)⟩ ⟨rfl, rfl⟩ ⟨(Nat.le_of_ble_eq_true rfl), (Nat.le_of_ble_eq_true rfl)⟩ ?_
        refine V_isub hC kX6_finds_59 ?_
        refine V_icmp_ge hC 67 kX6_finds_60 (by decide) (fun h60 => ?_) (fun h60 => ?_)
        · refine V_iconst hC (0) kX6_finds_67 (by decide) ?_
          exact j68 _ ((b01_f (fun z => absurd z.2 (Int32.not_lt.mpr h60))).symm)
        · refine V_iconst hC (1) kX6_finds_63 (by decide) ?_
          refine V_goto hC 68 kX6_finds_64 (by decide) ?_
          exact j68 _ ((b01_t ⟨Int32.not_lt.mp h36, Int32.not_le.mp h60⟩).symm)
def mtX6_goesOn : Mt := (yX6_goesOn, cX6_goesOn, 3, none, 5, 119, 0, 0)
theorem kX6_goesOn_0 : Dk mtX6_goesOn 0 (.aload_n 0) 1 1 := ⟨by decide +kernel, rfl⟩
theorem kX6_goesOn_1 : Dk mtX6_goesOn 1 (.iload_n 1) 1 2 := ⟨by decide +kernel, rfl⟩
theorem kX6_goesOn_2 : Dk mtX6_goesOn 2 (.invokevirtual 78) 3 5 := ⟨by decide +kernel, rfl⟩
theorem kX6_goesOn_5 : Dk mtX6_goesOn 5 (.aload_n 0) 1 6 := ⟨by decide +kernel, rfl⟩
theorem kX6_goesOn_6 : Dk mtX6_goesOn 6 (.iload_n 1) 1 7 := ⟨by decide +kernel, rfl⟩
theorem kX6_goesOn_7 : Dk mtX6_goesOn 7 (.iconst 2) 1 8 := ⟨by decide +kernel, rfl⟩
theorem kX6_goesOn_8 : Dk mtX6_goesOn 8 (.invokevirtual 53) 3 11 := ⟨by decide +kernel, rfl⟩
theorem kX6_goesOn_11 : Dk mtX6_goesOn 11 (.iconst 1) 1 12 := ⟨by decide +kernel, rfl⟩
theorem kX6_goesOn_12 : Dk mtX6_goesOn 12 (.isub) 1 13 := ⟨by decide +kernel, rfl⟩
theorem kX6_goesOn_13 : Dk mtX6_goesOn 13 (.istore_n 2) 1 14 := ⟨by decide +kernel, rfl⟩
theorem kX6_goesOn_14 : Dk mtX6_goesOn 14 (.iload_n 2) 1 15 := ⟨by decide +kernel, rfl⟩
theorem kX6_goesOn_15 : Dk mtX6_goesOn 15 (.iconst (-1)) 1 16 := ⟨by decide +kernel, rfl⟩
theorem kX6_goesOn_16 : Dk mtX6_goesOn 16 (.if_icmp .eq 31) 3 19 := ⟨by decide +kernel, rfl⟩
theorem kX6_goesOn_19 : Dk mtX6_goesOn 19 (.aload_n 0) 1 20 := ⟨by decide +kernel, rfl⟩
theorem kX6_goesOn_20 : Dk mtX6_goesOn 20 (.iload_n 2) 1 21 := ⟨by decide +kernel, rfl⟩
theorem kX6_goesOn_21 : Dk mtX6_goesOn 21 (.aload_n 0) 1 22 := ⟨by decide +kernel, rfl⟩
theorem kX6_goesOn_22 : Dk mtX6_goesOn 22 (.iload_n 1) 1 23 := ⟨by decide +kernel, rfl⟩
theorem kX6_goesOn_23 : Dk mtX6_goesOn 23 (.iconst 0) 1 24 := ⟨by decide +kernel, rfl⟩
theorem kX6_goesOn_24 : Dk mtX6_goesOn 24 (.invokevirtual 53) 3 27 := ⟨by decide +kernel, rfl⟩
theorem kX6_goesOn_27 : Dk mtX6_goesOn 27 (.invokevirtual 50) 3 30 := ⟨by decide +kernel, rfl⟩
theorem kX6_goesOn_30 : Dk mtX6_goesOn 30 (.aload_n 0) 1 31 := ⟨by decide +kernel, rfl⟩
theorem kX6_goesOn_31 : Dk mtX6_goesOn 31 (.getfield 7) 3 34 := ⟨by decide +kernel, rfl⟩
theorem kX6_goesOn_34 : Dk mtX6_goesOn 34 (.iconst 2) 1 35 := ⟨by decide +kernel, rfl⟩
theorem kX6_goesOn_35 : Dk mtX6_goesOn 35 (.iaload) 1 36 := ⟨by decide +kernel, rfl⟩
theorem kX6_goesOn_36 : Dk mtX6_goesOn 36 (.if_icmp .ge 11) 3 39 := ⟨by decide +kernel, rfl⟩
theorem kX6_goesOn_39 : Dk mtX6_goesOn 39 (.aload_n 0) 1 40 := ⟨by decide +kernel, rfl⟩
theorem kX6_goesOn_40 : Dk mtX6_goesOn 40 (.iload_n 1) 1 41 := ⟨by decide +kernel, rfl⟩
theorem kX6_goesOn_41 : Dk mtX6_goesOn 41 (.invokevirtual 82) 3 44 := ⟨by decide +kernel, rfl⟩
theorem kX6_goesOn_44 : Dk mtX6_goesOn 44 (.goto 13) 3 47 := ⟨by decide +kernel, rfl⟩
theorem kX6_goesOn_47 : Dk mtX6_goesOn 47 (.iload_n 2) 1 48 := ⟨by decide +kernel, rfl⟩
theorem kX6_goesOn_48 : Dk mtX6_goesOn 48 (.iconst (-1)) 1 49 := ⟨by decide +kernel, rfl⟩
theorem kX6_goesOn_49 : Dk mtX6_goesOn 49 (.if_icmp .eq 8) 3 52 := ⟨by decide +kernel, rfl⟩
theorem kX6_goesOn_52 : Dk mtX6_goesOn 52 (.aload_n 0) 1 53 := ⟨by decide +kernel, rfl⟩
theorem kX6_goesOn_53 : Dk mtX6_goesOn 53 (.iload_n 1) 1 54 := ⟨by decide +kernel, rfl⟩
theorem kX6_goesOn_54 : Dk mtX6_goesOn 54 (.invokevirtual 85) 3 57 := ⟨by decide +kernel, rfl⟩
theorem kX6_goesOn_57 : Dk mtX6_goesOn 57 (.aload_n 0) 1 58 := ⟨by decide +kernel, rfl⟩
theorem kX6_goesOn_58 : Dk mtX6_goesOn 58 (.iload_n 1) 1 59 := ⟨by decide +kernel, rfl⟩
theorem kX6_goesOn_59 : Dk mtX6_goesOn 59 (.iconst 2) 1 60 := ⟨by decide +kernel, rfl⟩
theorem kX6_goesOn_60 : Dk mtX6_goesOn 60 (.invokevirtual 53) 3 63 := ⟨by decide +kernel, rfl⟩
theorem kX6_goesOn_63 : Dk mtX6_goesOn 63 (.ifCond .ne 8) 3 66 := ⟨by decide +kernel, rfl⟩
theorem kX6_goesOn_66 : Dk mtX6_goesOn 66 (.aload_n 0) 1 67 := ⟨by decide +kernel, rfl⟩
theorem kX6_goesOn_67 : Dk mtX6_goesOn 67 (.iload_n 1) 1 68 := ⟨by decide +kernel, rfl⟩
theorem kX6_goesOn_68 : Dk mtX6_goesOn 68 (.invokevirtual 88) 3 71 := ⟨by decide +kernel, rfl⟩
theorem kX6_goesOn_71 : Dk mtX6_goesOn 71 (.aload_n 0) 1 72 := ⟨by decide +kernel, rfl⟩
theorem kX6_goesOn_72 : Dk mtX6_goesOn 72 (.iload_n 1) 1 73 := ⟨by decide +kernel, rfl⟩
theorem kX6_goesOn_73 : Dk mtX6_goesOn 73 (.iconst 3) 1 74 := ⟨by decide +kernel, rfl⟩
theorem kX6_goesOn_74 : Dk mtX6_goesOn 74 (.aload_n 0) 1 75 := ⟨by decide +kernel, rfl⟩
theorem kX6_goesOn_75 : Dk mtX6_goesOn 75 (.iload_n 1) 1 76 := ⟨by decide +kernel, rfl⟩
theorem kX6_goesOn_76 : Dk mtX6_goesOn 76 (.iconst 3) 1 77 := ⟨by decide +kernel, rfl⟩
theorem kX6_goesOn_77 : Dk mtX6_goesOn 77 (.invokevirtual 53) 3 80 := ⟨by decide +kernel, rfl⟩
theorem kX6_goesOn_80 : Dk mtX6_goesOn 80 (.ifCond .le 14) 3 83 := ⟨by decide +kernel, rfl⟩
theorem kX6_goesOn_83 : Dk mtX6_goesOn 83 (.aload_n 0) 1 84 := ⟨by decide +kernel, rfl⟩
theorem kX6_goesOn_84 : Dk mtX6_goesOn 84 (.iload_n 1) 1 85 := ⟨by decide +kernel, rfl⟩
theorem kX6_goesOn_85 : Dk mtX6_goesOn 85 (.iconst 3) 1 86 := ⟨by decide +kernel, rfl⟩
theorem kX6_goesOn_86 : Dk mtX6_goesOn 86 (.invokevirtual 53) 3 89 := ⟨by decide +kernel, rfl⟩
theorem kX6_goesOn_89 : Dk mtX6_goesOn 89 (.iconst 1) 1 90 := ⟨by decide +kernel, rfl⟩
theorem kX6_goesOn_90 : Dk mtX6_goesOn 90 (.isub) 1 91 := ⟨by decide +kernel, rfl⟩
theorem kX6_goesOn_91 : Dk mtX6_goesOn 91 (.goto 4) 3 94 := ⟨by decide +kernel, rfl⟩
theorem kX6_goesOn_94 : Dk mtX6_goesOn 94 (.iconst 0) 1 95 := ⟨by decide +kernel, rfl⟩
theorem kX6_goesOn_95 : Dk mtX6_goesOn 95 (.invokevirtual 63) 3 98 := ⟨by decide +kernel, rfl⟩
theorem kX6_goesOn_98 : Dk mtX6_goesOn 98 (.return_) 1 99 := ⟨by decide +kernel, rfl⟩
theorem lmX6_78 : LkM RX6 78 mtX6_sails := Or.inl (by decide +kernel)
theorem mkX6_sails : MkV mtX6_sails 1 := ⟨List.mem_of_getElem? (i := 1189) (by decide +kernel), by decide +kernel, by decide +kernel, by decide +kernel, ⟨by decide +kernel, by decide +kernel, by decide +kernel⟩⟩
theorem lmX6_88 : LkM RX6 88 mtX6_finds := Or.inl (by decide +kernel)
theorem mkX6_finds : MkV mtX6_finds 1 := ⟨List.mem_of_getElem? (i := 1225) (by decide +kernel), by decide +kernel, by decide +kernel, by decide +kernel, ⟨by decide +kernel, by decide +kernel, by decide +kernel⟩⟩
theorem lmX6_85 : LkM RX6 85 mtX6_wishes := Or.inl (by decide +kernel)
theorem mkX6_wishes : MkV mtX6_wishes 1 := ⟨List.mem_of_getElem? (i := 1205) (by decide +kernel), by decide +kernel, by decide +kernel, by decide +kernel, ⟨by decide +kernel, by decide +kernel, by decide +kernel⟩⟩
theorem lmX6_82 : LkM RX6 82 mtX6_drops := Or.inl (by decide +kernel)
theorem mkX6_drops : MkV mtX6_drops 1 := ⟨List.mem_of_getElem? (i := 1201) (by decide +kernel), by decide +kernel, by decide +kernel, by decide +kernel, ⟨by decide +kernel, by decide +kernel, by decide +kernel⟩⟩
set_option maxHeartbeats 4000000 in
set_option maxRecDepth 100000 in
theorem ct_goesOn {l : Launch} {w : Wd} {sg : Sg} (hWr : Wr w) {mo n : Nat} (hI : Inv (sg (mo + 1))) (hn : n < tn (sg (mo + 1) 5)) : M l mtX6_goesOn w [vR (some (6, 0, mo)), vI (nI n)] sg (fV0 (upr sg (mo + 1) (F_goesOn (sg (mo + 1)) (nI n)))) := by
  refine M_of [some (vR (some (6, 0, mo))), some (vI (nI n)), none] rfl (Nat.le_of_ble_eq_true rfl) (by decide +kernel) ?_
  intro p_ e_ s_ m_ args_ below_ meth_ c_ hC hO
  have h8 : n < 8 := by have := hI.c5.1; omega
  have hv8 : vp_in (nI n) 8 := vp_in_nI h8 (by decide)
  refine V_aload_n hC kX6_goesOn_0 rfl ?_
  refine V_iload_n hC kX6_goesOn_1 rfl ?_
  refine V_cV_fV hC (ct_sails hWr (nI n) hv8) mkX6_sails lmX6_78 kX6_goesOn_2 (Nat.le_of_ble_eq_true rfl) rfl rfl rfl (Nat.le_of_ble_eq_true rfl) ⟨(Nat.le_of_ble_eq_true rfl), (Nat.le_of_ble_eq_true rfl)⟩ ⟨rfl, rfl⟩ ⟨(Nat.le_of_ble_eq_true rfl), (Nat.le_of_ble_eq_true rfl)⟩ ?_
  have hI1 := Inv_sails hI hn
  have e15 : F_sails (sg (mo + 1)) (nI n) 5 = sg (mo + 1) 5 := sails_lo h8 (Or.inl (by decide))
  have hn1 : n < tn (F_sails (sg (mo + 1)) (nI n) 5) := by rw [e15]; exact hn
  refine V_aload_n hC kX6_goesOn_5 rfl ?_
  refine V_iload_n hC kX6_goesOn_6 rfl ?_
  refine V_iconst hC (2) kX6_goesOn_7 (by decide) ?_
  refine V_cV_fI hC (ct_ofBoat hWr (nI n) 2 hv8 (vp_lit rfl)) mkX6_ofBoat lmX6_53 kX6_goesOn_8 (Nat.le_of_ble_eq_true rfl) rfl rfl rfl (Nat.le_of_ble_eq_true rfl) ⟨(Nat.le_of_ble_eq_true rfl), (Nat.le_of_ble_eq_true rfl)⟩ ⟨rfl, rfl⟩ ⟨(Nat.le_of_ble_eq_true rfl), (Nat.le_of_ble_eq_true rfl)⟩ ?_
  refine V_iconst hC (1) kX6_goesOn_11 (by decide) ?_
  refine V_isub hC kX6_goesOn_12 ?_
  refine V_nameI (fun by1 e_by1 => ?_)
  refine V_istore_n hC [some _, some _, some _] kX6_goesOn_13 rfl (Nat.le_of_ble_eq_true rfl) ?_
  refine V_joinS 57 (upr sg (mo + 1) (F_onA (F_sails (sg (mo + 1)) (nI n)) (nI n))) ?_ (fun j57 => ?_)
  · have hI2 := Inv_onA hI1 hn1
    have e25 : F_onA (F_sails (sg (mo + 1)) (nI n)) (nI n) 5 = sg (mo + 1) 5 := (onA_lo hI1 h8 lo5).trans e15
    have hn2 : n < tn (F_onA (F_sails (sg (mo + 1)) (nI n)) (nI n) 5) := by rw [e25]; exact hn
    refine V_joinS 71 (upr sg (mo + 1) (F_onB (F_onA (F_sails (sg (mo + 1)) (nI n)) (nI n)) (nI n))) ?_ (fun j71 => ?_)
    · refine V_aload_n hC kX6_goesOn_71 rfl ?_
      refine V_iload_n hC kX6_goesOn_72 rfl ?_
      refine V_iconst hC (3) kX6_goesOn_73 (by decide) ?_
      refine V_join 95 (if 0 < gB (F_onB (F_onA (F_sails (sg (mo + 1)) (nI n)) (nI n)) (nI n)) (nI n) 3 then gB (F_onB (F_onA (F_sails (sg (mo + 1)) (nI n)) (nI n)) (nI n)) (nI n) 3 - 1 else 0) ?_ (fun j95 => ?_)
      · refine V_cV_fV hC (ct_layBoat hWr (nI n) 3 _ hv8 (vp_lit rfl)) mkX6_layBoat lmX6_63 kX6_goesOn_95 (Nat.le_of_ble_eq_true rfl) rfl rfl rfl (Nat.le_of_ble_eq_true rfl) ⟨(Nat.le_of_ble_eq_true rfl), (Nat.le_of_ble_eq_true rfl)⟩ ⟨rfl, rfl⟩ ⟨(Nat.le_of_ble_eq_true rfl), (Nat.le_of_ble_eq_true rfl)⟩ ?_
        refine V_vret hC rfl kX6_goesOn_98 ?_
        refine ⟨by with_reducible rfl, ?_⟩
        unfold F_goesOn F_onC
        rw [upr_at, upr_upr]
      · refine V_aload_n hC kX6_goesOn_74 rfl ?_
        refine V_iload_n hC kX6_goesOn_75 rfl ?_
        refine V_iconst hC (3) kX6_goesOn_76 (by decide) ?_
        refine V_cV_fI hC (ct_ofBoat hWr (nI n) 3 hv8 (vp_lit rfl)) mkX6_ofBoat lmX6_53 kX6_goesOn_77 (Nat.le_of_ble_eq_true rfl) rfl rfl rfl (Nat.le_of_ble_eq_true rfl) ⟨(Nat.le_of_ble_eq_true rfl), (Nat.le_of_ble_eq_true rfl)⟩ ⟨rfl, rfl⟩ ⟨(Nat.le_of_ble_eq_true rfl), (Nat.le_of_ble_eq_true rfl)⟩ ?_
        refine V_if_le hC 94 kX6_goesOn_80 (by decide) (fun h80 => ?_) (fun h80 => ?_)
        · refine V_iconst hC (0) kX6_goesOn_94 (by decide) ?_
          exact j95 _ ((by rw [upr_at] at h80; rw [if_neg (Int32.not_lt.mpr h80)]))
        · refine V_aload_n hC kX6_goesOn_83 rfl ?_
          refine V_iload_n hC kX6_goesOn_84 rfl ?_
          refine V_iconst hC (3) kX6_goesOn_85 (by decide) ?_
          refine V_cV_fI hC (ct_ofBoat hWr (nI n) 3 hv8 (vp_lit rfl)) mkX6_ofBoat lmX6_53 kX6_goesOn_86 (Nat.le_of_ble_eq_true rfl) rfl rfl rfl (Nat.le_of_ble_eq_true rfl) ⟨(Nat.le_of_ble_eq_true rfl), (Nat.le_of_ble_eq_true rfl)⟩ ⟨rfl, rfl⟩ ⟨(Nat.le_of_ble_eq_true rfl), (Nat.le_of_ble_eq_true rfl)⟩ ?_
          refine V_iconst hC (1) kX6_goesOn_89 (by decide) ?_
          refine V_isub hC kX6_goesOn_90 ?_
          refine V_goto hC 95 kX6_goesOn_91 (by decide) ?_
          exact j95 _ ((by rw [upr_at] at h80 ⊢; rw [if_pos (Int32.not_le.mp h80)]))
    · refine V_aload_n hC kX6_goesOn_57 rfl ?_
      refine V_iload_n hC kX6_goesOn_58 rfl ?_
      refine V_iconst hC (2) kX6_goesOn_59 (by decide) ?_
      refine V_cV_fI hC (ct_ofBoat hWr (nI n) 2 hv8 (vp_lit rfl)) mkX6_ofBoat lmX6_53 kX6_goesOn_60 (Nat.le_of_ble_eq_true rfl) rfl rfl rfl (Nat.le_of_ble_eq_true rfl) ⟨(Nat.le_of_ble_eq_true rfl), (Nat.le_of_ble_eq_true rfl)⟩ ⟨rfl, rfl⟩ ⟨(Nat.le_of_ble_eq_true rfl), (Nat.le_of_ble_eq_true rfl)⟩ ?_
      refine V_if_ne hC 71 kX6_goesOn_63 (by decide) (fun h63 => ?_) (fun h63 => ?_)
      · exact j71 _ (by rw [upr_at] at h63; rw [F_onB, if_neg h63])
      · refine V_aload_n hC kX6_goesOn_66 rfl ?_
        refine V_iload_n hC kX6_goesOn_67 rfl ?_
        refine V_cV_fV hC (ct_finds hWr (by rw [upr_at]; exact hI2) (by rw [upr_at]; exact hn2)) mkX6_finds lmX6_88 kX6_goesOn_68 (Nat.le_of_ble_eq_true rfl) rfl rfl rfl (Nat.le_of_ble_eq_true rfl) ⟨(Nat.le_of_ble_eq_true rfl), (Nat.le_of_ble_eq_true rfl)⟩ ⟨rfl, rfl⟩ ⟨(Nat.le_of_ble_eq_true rfl), (Nat.le_of_ble_eq_true rfl)⟩ ?_
        exact j71 _ (by rw [upr_at] at h63; rw [F_onB, if_pos h63, upr_at, upr_upr])
  · refine V_iload_n hC kX6_goesOn_14 rfl ?_
    refine V_iconst hC (-1) kX6_goesOn_15 (by decide) ?_
    refine V_icmp_eq hC 47 kX6_goesOn_16 (by decide) (fun h16 => ?_) (fun h16 => ?_)
    · refine V_iload_n hC kX6_goesOn_47 rfl ?_
      refine V_iconst hC (-1) kX6_goesOn_48 (by decide) ?_
      refine V_icmp_eq hC 57 kX6_goesOn_49 (by decide) (fun h49 => ?_) (fun h49 => absurd h49 (not_not_intro h16))
      exact j57 _ (by subst e_by1; rw [F_onA, if_neg (fun z => z.1 (by rw [upr_at] at h16; exact h16)), if_neg (not_not_intro (by rw [upr_at] at h16; exact h16))])
    · refine V_aload_n hC kX6_goesOn_19 rfl ?_
      refine V_iload_n hC kX6_goesOn_20 rfl ?_
      refine V_aload_n hC kX6_goesOn_21 rfl ?_
      refine V_iload_n hC kX6_goesOn_22 rfl ?_
      refine V_iconst hC (0) kX6_goesOn_23 (by decide) ?_
      refine V_cV_fI hC (ct_ofBoat hWr (nI n) 0 hv8 (vp_lit rfl)) mkX6_ofBoat lmX6_53 kX6_goesOn_24 (Nat.le_of_ble_eq_true rfl) rfl rfl rfl (Nat.le_of_ble_eq_true rfl) ⟨(Nat.le_of_ble_eq_true rfl), (Nat.le_of_ble_eq_true rfl)⟩ ⟨rfl, rfl⟩ ⟨(Nat.le_of_ble_eq_true rfl), (Nat.le_of_ble_eq_true rfl)⟩ ?_
      obtain ⟨jy, hjy, ejy⟩ : ∃ j, j < tn (F_sails (sg (mo + 1)) (nI n) 4) ∧ by1 = nI j := by
        rcases hI1.by hn1 with z | ⟨j, h1, h2⟩
        · exact absurd (by rw [e_by1, upr_at]; exact z) h16
        · exact ⟨j, h1, by rw [e_by1, upr_at]; exact h2⟩
      have hy6 := hI1.c4.1
      refine V_cV_fI hC (ct_bright hWr by1 _ (by rw [ejy]; exact vp_in_nI (by omega) (by decide)) (fun _ => by rw [ejy, upr_at]; exact hI1.ne hjy)) mkX6_bright lmX6_50 kX6_goesOn_27 (Nat.le_of_ble_eq_true rfl) rfl rfl rfl (Nat.le_of_ble_eq_true rfl) ⟨(Nat.le_of_ble_eq_true rfl), (Nat.le_of_ble_eq_true rfl)⟩ ⟨rfl, rfl⟩ ⟨(Nat.le_of_ble_eq_true rfl), (Nat.le_of_ble_eq_true rfl)⟩ ?_
      refine V_aload_n hC kX6_goesOn_30 rfl ?_
      refine V_getR hC hWr 6 1 lfX6_7 kX6_goesOn_31 (Nat.le_of_ble_eq_true rfl) (Nat.le_of_ble_eq_true rfl) rfl ?_
      refine V_iconst hC (2) kX6_goesOn_34 (by decide) ?_
      refine V_iald hC 2 rfl kX6_goesOn_35 (vp_lit rfl) ?_
      refine V_icmp_ge hC 47 kX6_goesOn_36 (by decide) (fun h36 => ?_) (fun h36 => ?_)
      · refine V_iload_n hC kX6_goesOn_47 rfl ?_
        refine V_iconst hC (-1) kX6_goesOn_48 (by decide) ?_
        refine V_icmp_eq hC 57 kX6_goesOn_49 (by decide) (fun h49 => absurd h49 h16) (fun h49 => ?_)
        refine V_aload_n hC kX6_goesOn_52 rfl ?_
        refine V_iload_n hC kX6_goesOn_53 rfl ?_
        refine V_cV_fV hC (ct_wishes hWr (by rw [upr_at]; exact hI1) (by rw [upr_at]; exact hn1) (by
          rw [upr_at]
          rcases hI1.by hn1 with z | ⟨j, h1, h2⟩
          · exact absurd (by rw [e_by1, upr_at]; exact z) h16
          · exact ⟨j, h1, h2⟩)) mkX6_wishes lmX6_85 kX6_goesOn_54 (Nat.le_of_ble_eq_true rfl) rfl rfl rfl (Nat.le_of_ble_eq_true rfl) ⟨(Nat.le_of_ble_eq_true rfl), (Nat.le_of_ble_eq_true rfl)⟩ ⟨rfl, rfl⟩ ⟨(Nat.le_of_ble_eq_true rfl), (Nat.le_of_ble_eq_true rfl)⟩ ?_
        exact j57 _ (by rw [upr_at] at e_by1; rw [F_onA, if_neg (fun z => absurd z.2 (by rw [upr_at, e_by1] at h36; exact Int32.not_lt.mpr h36)), if_pos (by rw [← e_by1]; exact h16), upr_at, upr_upr])
      · refine V_aload_n hC kX6_goesOn_39 rfl ?_
        refine V_iload_n hC kX6_goesOn_40 rfl ?_
        refine V_cV_fV hC (ct_drops hWr (nI n) hv8) mkX6_drops lmX6_82 kX6_goesOn_41 (Nat.le_of_ble_eq_true rfl) rfl rfl rfl (Nat.le_of_ble_eq_true rfl) ⟨(Nat.le_of_ble_eq_true rfl), (Nat.le_of_ble_eq_true rfl)⟩ ⟨rfl, rfl⟩ ⟨(Nat.le_of_ble_eq_true rfl), (Nat.le_of_ble_eq_true rfl)⟩ ?_
        refine V_goto hC 57 kX6_goesOn_44 (by decide) ?_
        exact j57 _ (by rw [upr_at] at e_by1; rw [F_onA, if_pos ⟨by rw [← e_by1]; exact h16, by rw [upr_at, e_by1] at h36; exact Int32.not_le.mp h36⟩, upr_at, upr_upr])
def mtX6_goesTick : Mt := (yX6_goesTick, cX6_goesTick, 2, none, 6, 141, 0, 0)
theorem kX6_goesTick_0 : Dk mtX6_goesTick 0 (.aload_n 0) 1 1 := ⟨by decide +kernel, rfl⟩
theorem kX6_goesTick_1 : Dk mtX6_goesTick 1 (.getfield 7) 3 4 := ⟨by decide +kernel, rfl⟩
theorem kX6_goesTick_4 : Dk mtX6_goesTick 4 (.bipush 6) 2 6 := ⟨by decide +kernel, rfl⟩
theorem kX6_goesTick_6 : Dk mtX6_goesTick 6 (.dup2) 1 7 := ⟨by decide +kernel, rfl⟩
theorem kX6_goesTick_7 : Dk mtX6_goesTick 7 (.iaload) 1 8 := ⟨by decide +kernel, rfl⟩
theorem kX6_goesTick_8 : Dk mtX6_goesTick 8 (.iconst 1) 1 9 := ⟨by decide +kernel, rfl⟩
theorem kX6_goesTick_9 : Dk mtX6_goesTick 9 (.iadd) 1 10 := ⟨by decide +kernel, rfl⟩
theorem kX6_goesTick_10 : Dk mtX6_goesTick 10 (.iastore) 1 11 := ⟨by decide +kernel, rfl⟩
theorem kX6_goesTick_11 : Dk mtX6_goesTick 11 (.iconst 0) 1 12 := ⟨by decide +kernel, rfl⟩
theorem kX6_goesTick_12 : Dk mtX6_goesTick 12 (.istore_n 1) 1 13 := ⟨by decide +kernel, rfl⟩
theorem kX6_goesTick_13 : Dk mtX6_goesTick 13 (.iload_n 1) 1 14 := ⟨by decide +kernel, rfl⟩
theorem kX6_goesTick_14 : Dk mtX6_goesTick 14 (.aload_n 0) 1 15 := ⟨by decide +kernel, rfl⟩
theorem kX6_goesTick_15 : Dk mtX6_goesTick 15 (.getfield 7) 3 18 := ⟨by decide +kernel, rfl⟩
theorem kX6_goesTick_18 : Dk mtX6_goesTick 18 (.iconst 5) 1 19 := ⟨by decide +kernel, rfl⟩
theorem kX6_goesTick_19 : Dk mtX6_goesTick 19 (.iaload) 1 20 := ⟨by decide +kernel, rfl⟩
theorem kX6_goesTick_20 : Dk mtX6_goesTick 20 (.if_icmp .ge 14) 3 23 := ⟨by decide +kernel, rfl⟩
theorem kX6_goesTick_23 : Dk mtX6_goesTick 23 (.aload_n 0) 1 24 := ⟨by decide +kernel, rfl⟩
theorem kX6_goesTick_24 : Dk mtX6_goesTick 24 (.iload_n 1) 1 25 := ⟨by decide +kernel, rfl⟩
theorem kX6_goesTick_25 : Dk mtX6_goesTick 25 (.invokevirtual 91) 3 28 := ⟨by decide +kernel, rfl⟩
theorem kX6_goesTick_28 : Dk mtX6_goesTick 28 (.iinc 1 1) 3 31 := ⟨by decide +kernel, rfl⟩
theorem kX6_goesTick_31 : Dk mtX6_goesTick 31 (.goto (-18)) 3 34 := ⟨by decide +kernel, rfl⟩
theorem kX6_goesTick_34 : Dk mtX6_goesTick 34 (.return_) 1 35 := ⟨by decide +kernel, rfl⟩
theorem lmX6_91 : LkM RX6 91 mtX6_goesOn := Or.inl (by decide +kernel)
theorem mkX6_goesOn : MkV mtX6_goesOn 1 := ⟨List.mem_of_getElem? (i := 1185) (by decide +kernel), by decide +kernel, by decide +kernel, by decide +kernel, ⟨by decide +kernel, by decide +kernel, by decide +kernel⟩⟩
set_option maxHeartbeats 4000000 in
set_option maxRecDepth 100000 in
theorem ct_goesTick {l : Launch} {w : Wd} {sg : Sg} (hWr : Wr w) {mo : Nat} (hI : Inv (sg (mo + 1))) : M l mtX6_goesTick w [vR (some (6, 0, mo))] sg (fV0 (upr sg (mo + 1) (F_tick (sg (mo + 1))))) := by
  refine M_of [some (vR (some (6, 0, mo))), none] rfl (Nat.le_of_ble_eq_true rfl) (by decide +kernel) ?_
  intro p_ e_ s_ m_ args_ below_ meth_ c_ hC hO
  refine V_aload_n hC kX6_goesTick_0 rfl ?_
  refine V_getR hC hWr 6 1 lfX6_7 kX6_goesTick_1 (Nat.le_of_ble_eq_true rfl) (Nat.le_of_ble_eq_true rfl) rfl ?_
  refine V_bipush hC (6) kX6_goesTick_4 (by decide) ?_
  refine V_dup2 hC kX6_goesTick_6 rfl rfl ?_
  refine V_iald hC 6 rfl kX6_goesTick_7 (vp_lit rfl) ?_
  refine V_iconst hC (1) kX6_goesTick_8 (by decide) ?_
  refine V_iadd hC kX6_goesTick_9 ?_
  refine V_iast hC 6 rfl kX6_goesTick_10 (vp_lit rfl) ?_
  refine V_iconst hC (0) kX6_goesTick_11 (by decide) ?_
  refine V_istore_n hC [some _, some _] kX6_goesTick_12 rfl (Nat.le_of_ble_eq_true rfl) ?_
  refine V_canon (upr sg (mo + 1) (F_tickN (sg (mo + 1)) 0)) (by rw [F_tickN, F_inc, ups]) ?_
  refine V_loop (tn ((sg (mo + 1)) 5)) (fun i => [some (vR (some (6, 0, mo))), some (vI (nI i))]) (fun i => upr sg (mo + 1) (F_tickN (sg (mo + 1)) i)) rfl rfl ?_ (fun i hi ihi => ?_)
  · refine V_iload_n hC kX6_goesTick_13 rfl ?_
    refine V_aload_n hC kX6_goesTick_14 rfl ?_
    refine V_getR hC hWr 6 1 lfX6_7 kX6_goesTick_15 (Nat.le_of_ble_eq_true rfl) (Nat.le_of_ble_eq_true rfl) rfl ?_
    refine V_iconst hC (5) kX6_goesTick_18 (by decide) ?_
    refine V_iald hC 5 rfl kX6_goesTick_19 (vp_lit rfl) ?_
    refine V_icmp_ge hC 34 kX6_goesTick_20 (by decide) (fun h20 => ?_) (fun h20 => absurd h20 (not_not_intro (by rw [upr_at, (Inv_tickN hI _ (Nat.le_refl _)).2 5 lo5]; exact cnt_le hI.hc5.1)))
    refine V_vret hC rfl kX6_goesTick_34 ?_
    refine ⟨by with_reducible rfl, ?_⟩
    unfold F_tick
    with_reducible rfl
  · obtain ⟨hIi, hei⟩ := Inv_tickN hI i (Nat.le_of_lt hi)
    have e5 := hei 5 lo5
    refine V_iload_n hC kX6_goesTick_13 rfl ?_
    refine V_aload_n hC kX6_goesTick_14 rfl ?_
    refine V_getR hC hWr 6 1 lfX6_7 kX6_goesTick_15 (Nat.le_of_ble_eq_true rfl) (Nat.le_of_ble_eq_true rfl) rfl ?_
    refine V_iconst hC (5) kX6_goesTick_18 (by decide) ?_
    refine V_iald hC 5 rfl kX6_goesTick_19 (vp_lit rfl) ?_
    refine V_icmp_ge hC 34 kX6_goesTick_20 (by decide) (fun h20 => absurd h20 (by rw [upr_at, e5]; exact cnt_lt hI.hc5.1 hi)) (fun h20 => ?_)
    refine V_aload_n hC kX6_goesTick_23 rfl ?_
    refine V_iload_n hC kX6_goesTick_24 rfl ?_
    refine V_cV_fV hC (ct_goesOn hWr (by rw [upr_at]; exact hIi) (by rw [upr_at, e5]; exact hi)) mkX6_goesOn lmX6_91 kX6_goesTick_25 (Nat.le_of_ble_eq_true rfl) rfl rfl rfl (Nat.le_of_ble_eq_true rfl) ⟨(Nat.le_of_ble_eq_true rfl), (Nat.le_of_ble_eq_true rfl)⟩ ⟨rfl, rfl⟩ ⟨(Nat.le_of_ble_eq_true rfl), (Nat.le_of_ble_eq_true rfl)⟩ ?_
    refine V_iinc hC (_ + 1) [some _, some _] kX6_goesTick_28 rfl rfl rfl (Nat.le_of_ble_eq_true rfl) ?_
    refine V_goto hC 13 kX6_goesTick_31 (by decide) ?_
    refine V_eq (by rw [nI_succ]) ?_ ihi
    rw [upr_at, upr_upr, F_tickN]
def mtX6_goesBy : Mt := (yX6_goesBy, cX6_goesBy, 5, (some .int), 7, 162, 0, 0)
theorem kX6_goesBy_0 : Dk mtX6_goesBy 0 (.aload_n 0) 1 1 := ⟨by decide +kernel, rfl⟩
theorem kX6_goesBy_1 : Dk mtX6_goesBy 1 (.getfield 7) 3 4 := ⟨by decide +kernel, rfl⟩
theorem kX6_goesBy_4 : Dk mtX6_goesBy 4 (.iload_n 2) 1 5 := ⟨by decide +kernel, rfl⟩
theorem kX6_goesBy_5 : Dk mtX6_goesBy 5 (.iaload) 1 6 := ⟨by decide +kernel, rfl⟩
theorem kX6_goesBy_6 : Dk mtX6_goesBy 6 (.istore_n 3) 1 7 := ⟨by decide +kernel, rfl⟩
theorem kX6_goesBy_7 : Dk mtX6_goesBy 7 (.iconst 0) 1 8 := ⟨by decide +kernel, rfl⟩
theorem kX6_goesBy_8 : Dk mtX6_goesBy 8 (.istore 4) 2 10 := ⟨by decide +kernel, rfl⟩
theorem kX6_goesBy_10 : Dk mtX6_goesBy 10 (.iload 4) 2 12 := ⟨by decide +kernel, rfl⟩
theorem kX6_goesBy_12 : Dk mtX6_goesBy 12 (.iload_n 1) 1 13 := ⟨by decide +kernel, rfl⟩
theorem kX6_goesBy_13 : Dk mtX6_goesBy 13 (.if_icmp .ge 13) 3 16 := ⟨by decide +kernel, rfl⟩
theorem kX6_goesBy_16 : Dk mtX6_goesBy 16 (.aload_n 0) 1 17 := ⟨by decide +kernel, rfl⟩
theorem kX6_goesBy_17 : Dk mtX6_goesBy 17 (.invokevirtual 94) 3 20 := ⟨by decide +kernel, rfl⟩
theorem kX6_goesBy_20 : Dk mtX6_goesBy 20 (.iinc 4 1) 3 23 := ⟨by decide +kernel, rfl⟩
theorem kX6_goesBy_23 : Dk mtX6_goesBy 23 (.goto (-13)) 3 26 := ⟨by decide +kernel, rfl⟩
theorem kX6_goesBy_26 : Dk mtX6_goesBy 26 (.aload_n 0) 1 27 := ⟨by decide +kernel, rfl⟩
theorem kX6_goesBy_27 : Dk mtX6_goesBy 27 (.getfield 7) 3 30 := ⟨by decide +kernel, rfl⟩
theorem kX6_goesBy_30 : Dk mtX6_goesBy 30 (.iload_n 2) 1 31 := ⟨by decide +kernel, rfl⟩
theorem kX6_goesBy_31 : Dk mtX6_goesBy 31 (.iaload) 1 32 := ⟨by decide +kernel, rfl⟩
theorem kX6_goesBy_32 : Dk mtX6_goesBy 32 (.iload_n 3) 1 33 := ⟨by decide +kernel, rfl⟩
theorem kX6_goesBy_33 : Dk mtX6_goesBy 33 (.isub) 1 34 := ⟨by decide +kernel, rfl⟩
theorem kX6_goesBy_34 : Dk mtX6_goesBy 34 (.ireturn) 1 35 := ⟨by decide +kernel, rfl⟩
theorem lmX6_94 : LkM RX6 94 mtX6_goesTick := Or.inl (by decide +kernel)
theorem mkX6_goesTick : MkV mtX6_goesTick 0 := ⟨List.mem_of_getElem? (i := 1181) (by decide +kernel), by decide +kernel, by decide +kernel, by decide +kernel, ⟨by decide +kernel, by decide +kernel, by decide +kernel⟩⟩
set_option maxHeartbeats 4000000 in
set_option maxRecDepth 100000 in
theorem ct_goesBy {l : Launch} {w : Wd} {sg : Sg} (hWr : Wr w) {mo N j : Nat} (hI : Inv (sg (mo + 1))) (hN : N < 2 ^ 31) (hj : j < 140) : M l mtX6_goesBy w [vR (some (6, 0, mo)), vI (nI N), vI (nI j)] sg (fI (F_ticks (sg (mo + 1)) N j - (sg (mo + 1)) j) (upr sg (mo + 1) (F_ticks (sg (mo + 1)) N))) := by
  refine M_of [some (vR (some (6, 0, mo))), some (vI (nI N)), some (vI (nI j)), none, none] rfl (Nat.le_of_ble_eq_true rfl) (by decide +kernel) ?_
  intro p_ e_ s_ m_ args_ below_ meth_ c_ hC hO
  refine V_aload_n hC kX6_goesBy_0 rfl ?_
  refine V_getR hC hWr 6 1 lfX6_7 kX6_goesBy_1 (Nat.le_of_ble_eq_true rfl) (Nat.le_of_ble_eq_true rfl) rfl ?_
  refine V_iload_n hC kX6_goesBy_4 rfl ?_
  refine V_iald hC j (nI_clamp (by omega)) kX6_goesBy_5 (vp_in_nI hj (by decide)) ?_
  refine V_nameI (fun had e_had => ?_)
  refine V_istore_n hC [some _, some _, some _, some _, none] kX6_goesBy_6 rfl (Nat.le_of_ble_eq_true rfl) ?_
  refine V_iconst hC (0) kX6_goesBy_7 (by decide) ?_
  refine V_istore hC [some _, some _, some _, some _, some _] kX6_goesBy_8 rfl (Nat.le_of_ble_eq_true rfl) ?_
  refine V_canon (upr sg (mo + 1) (F_ticks (sg (mo + 1)) 0)) (by rw [F_ticks, upr_self]) ?_
  refine V_loop N (fun i => [some (vR (some (6, 0, mo))), some (vI (nI N)), some (vI (nI j)), some (vI had), some (vI (nI i))]) (fun i => upr sg (mo + 1) (F_ticks (sg (mo + 1)) i)) rfl rfl ?_ (fun i hi ihi => ?_)
  · refine V_iload hC kX6_goesBy_10 rfl ?_
    refine V_iload_n hC kX6_goesBy_12 rfl ?_
    refine V_icmp_ge hC 26 kX6_goesBy_13 (by decide) (fun h13 => ?_) (fun h13 => absurd h13 (not_not_intro (Int32.le_refl _)))
    refine V_aload_n hC kX6_goesBy_26 rfl ?_
    refine V_getR hC hWr 6 1 lfX6_7 kX6_goesBy_27 (Nat.le_of_ble_eq_true rfl) (Nat.le_of_ble_eq_true rfl) rfl ?_
    refine V_iload_n hC kX6_goesBy_30 rfl ?_
    refine V_iald hC j (nI_clamp (by omega)) kX6_goesBy_31 (vp_in_nI hj (by decide)) ?_
    refine V_iload_n hC kX6_goesBy_32 rfl ?_
    refine V_isub hC kX6_goesBy_33 ?_
    refine V_ireti hC rfl kX6_goesBy_34 ?_
    refine ⟨cI ?_, by with_reducible rfl⟩
    rw [e_had, upr_at]
  · refine V_iload hC kX6_goesBy_10 rfl ?_
    refine V_iload_n hC kX6_goesBy_12 rfl ?_
    refine V_icmp_ge hC 26 kX6_goesBy_13 (by decide) (fun h13 => absurd h13 (nI_ge hi hN)) (fun h13 => ?_)
    refine V_aload_n hC kX6_goesBy_16 rfl ?_
    refine V_cV_fV hC (ct_goesTick hWr (by rw [upr_at]; exact (Inv_ticks hI i).1)) mkX6_goesTick lmX6_94 kX6_goesBy_17 (Nat.le_of_ble_eq_true rfl) rfl rfl rfl (Nat.le_of_ble_eq_true rfl) ⟨(Nat.le_of_ble_eq_true rfl), (Nat.le_of_ble_eq_true rfl)⟩ ⟨rfl, rfl⟩ ⟨(Nat.le_of_ble_eq_true rfl), (Nat.le_of_ble_eq_true rfl)⟩ ?_
    refine V_iinc hC (_ + 1) [some _, some _, some _, some _, some _] kX6_goesBy_20 rfl rfl rfl (Nat.le_of_ble_eq_true rfl) ?_
    refine V_goto hC 10 kX6_goesBy_23 (by decide) ?_
    refine V_eq (by rw [nI_succ]) ?_ ihi
    rw [upr_at, upr_upr, F_ticks]
