-- HOW ct_in fI
-- HOW ct_fails fI
-- HOW ct_of fI
-- HOW ct_ofBoat fI
-- HOW ct_layBoat fV
-- HOW ct_isLight fI
-- HOW ct_isBoat fI
-- HOW ct_isPlace fI
-- HOW ct_bright fI
-- HOW ct_worth fI
-- HOW ct_serves fI
-- HOW ct_best fI
-- HOW ct_sails fV
-- HOW ct_drops fV
-- HOW ct_wished fI
-- HOW ct_hands fV
-- HOW ct_wishes fV
-- HOW ct_finds fV
-- HOW ct_goesOn fV
-- HOW ct_goesTick fV
-- HOW ct_goesBy fI
-- HOW ct_putAside fV
-- HOW ct_takeBack fV
-- HOW ct_isLamp fI
-- HOW ct_addsLight fI
-- HOW ct_actsLight fI
-- HOW ct_addsBoat fI
-- HOW ct_actsBoat fI
-- HOW ct_actsSteer fI
-- HOW ct_canTalk fI
-- HOW ct_actsTalk fI
-- HOW ct_actsLean fI
-- HOW ct_actsDim fI
-- HOW ct_mostOf fI
-- HOW ct_isSetting fI
-- HOW ct_actsSet fI
-- HOW ct_actsTicks fI
-- HOW ct_boatsThat fI
-- HOW ct_servedBy fI
-- HOW ct_begins fV
-- HOW ct_tellsAbout fI
-- HOW ct_about fM
-- HOW ct_lightOf fM
-- HOW ct_boatOf fM
-- HOW ct_brightness fM
-- HOW ct_bestAt fM
-- HOW ct_setting fM
-- HOW ct_saves fV
-- HOW ct_light fM
-- HOW ct_boat fM
-- HOW ct_steer fM
-- HOW ct_talk fM
-- HOW ct_lean fM
-- HOW ct_dim fM
-- HOW ct_set fM
-- HOW ct_ticks fM
-- HOW ct_undo fM
-- HOW ct_save fM
-- HOW ct_restore fM
-- HOW ct_bringsBy fI
-- HOW ct_ifMargin fM
-- HOW ct_held fI
-- HOW ct_room fI
-- HOW ct_dark fI
-- HOW ct_turns fV
-- HOW ct_simulate fM
-- HOW ct_border fM
-- HOW ct_handedIn fM
-- HOW ct_bestMargin fM
-- HOW ct_thrown fI
-- HOW ct_sign fI
-- HOW ct_number fI
/-! the reference: its text, numbers in it -/
def TI (c : Gs) : Prop := ∃ a n, c 9 = nI a ∧ c 8 = nI n ∧ a ≤ n ∧ n ≤ 120
def F_sign (c tx : Gs) : Int32 := if c 9 < c 8 then tx (tn (c 9)) else 0
def dv (d i : Nat) : Int32 := if i < d then nI (10 ^ (d - 1 - i)) else 0
abbrev P_num (tx : Gs) (lo hi v : Int32) (q : Int32 × Gs) : Prop := ¬ q.2 10 = 0 ∧ inn (F_sign q.2 tx) 48 57 ∧ q.1 + v * (F_sign q.2 tx - 48) ≤ hi ∧ lo < q.1 + v * (F_sign q.2 tx - 48) + v
def F_nst (tx : Gs) (lo hi v : Int32) (q : Int32 × Gs) : Int32 × Gs :=
  (q.1 + v * (F_sign q.2 tx - 48), upd (upd q.2 10 (b01 (P_num tx lo hi v q))) 9 (q.2 9 + b01 (P_num tx lo hi v q)))
def F_numN (tx : Gs) (lo hi : Int32) (d : Nat) (c : Gs) : Nat → Int32 × Gs
  | 0 => (0, c)
  | i + 1 => F_nst tx lo hi (dv d i) (F_numN tx lo hi d c i)
def F_num (tx : Gs) (lo hi : Int32) (d : Nat) (c : Gs) : Int32 × Gs := F_numN tx lo hi d c d
theorem TI.at_in {c : Gs} (h : TI c) (hl : c 9 < c 8) : vp_in (c 9) 120 := by
  obtain ⟨a, n, h1, h2, h3, h4⟩ := h
  rw [h1, h2] at hl
  rw [h1]
  exact vp_in_nI (by have := (nI_ltI (by omega) (by omega)).mp hl; omega) (by decide)
theorem dv_s {d i : Nat} (hd : d ≤ 3) (hi : i < d) : dv d i / 10 = dv d (i + 1) ∧ ¬ dv d i ≤ 0 := by
  obtain rfl | rfl | rfl : d = 1 ∨ d = 2 ∨ d = 3 := by omega
  · obtain rfl : i = 0 := by omega
    decide
  · obtain rfl | rfl : i = 0 ∨ i = 1 := by omega
    · decide
    · decide
  · obtain rfl | rfl | rfl : i = 0 ∨ i = 1 ∨ i = 2 := by omega
    · decide
    · decide
    · decide
theorem dv_10 {d : Nat} (h : ¬ nI d = 2) (h3 : ¬ nI d = 3) (hd : 1 ≤ d) (hd3 : d ≤ 3) : 1 = dv d 0 := by
  obtain rfl | rfl | rfl : d = 1 ∨ d = 2 ∨ d = 3 := by omega
  · rfl
  · exact absurd rfl h
  · exact absurd rfl h3
theorem dv_20 {d : Nat} (h : nI d = 2) (hd3 : d ≤ 3) : 10 = dv d 0 := by
  obtain rfl : d = 2 := (nI_eq (by omega) (by decide)).mp h
  rfl
theorem dv_30 {d : Nat} (h : nI d = 3) (hd3 : d ≤ 3) : 100 = dv d 0 := by
  obtain rfl : d = 3 := (nI_eq (by omega) (by decide)).mp h
  rfl
theorem b01_nar (c : Prop) [Decidable c] : narrow (gty 6 10) (.int (b01 c)) = .int (b01 c) ∧ fits (gty 6 10) (.int (b01 c)) = true := by
  unfold b01
  split <;> exact ⟨rfl, rfl⟩
theorem dv_d (d : Nat) : dv d d = 0 := if_neg (by omega)
theorem TI.nst {tx : Gs} {lo hi v : Int32} {q : Int32 × Gs} (h : TI q.2) : TI (F_nst tx lo hi v q).2 := by
  obtain ⟨a, n, h1, h2, h3, h4⟩ := h
  unfold F_nst
  by_cases hp : P_num tx lo hi v q
  · refine ⟨a + 1, n, ?_, ?_, ?_, h4⟩
    · show upd (upd q.2 10 (b01 (P_num tx lo hi v q))) 9 (q.2 9 + b01 (P_num tx lo hi v q)) 9 = _
      rw [pk_us, b01_t hp, h1, nI_succ]
    · show upd (upd q.2 10 (b01 (P_num tx lo hi v q))) 9 (q.2 9 + b01 (P_num tx lo hi v q)) 8 = _
      rw [pk_un (by decide), pk_un (by decide), h2]
    · have hs := hp.2.1
      unfold F_sign at hs
      rw [h1, h2] at hs
      split at hs
      · rename_i hl
        have := (nI_ltI (by omega) (by omega)).mp hl
        omega
      · exact absurd hs.1 (by decide)
  · refine ⟨a, n, ?_, ?_, h3, h4⟩
    · show upd (upd q.2 10 (b01 (P_num tx lo hi v q))) 9 (q.2 9 + b01 (P_num tx lo hi v q)) 9 = _
      rw [pk_us, b01_f hp, h1, Int32.add_zero]
    · show upd (upd q.2 10 (b01 (P_num tx lo hi v q))) 9 (q.2 9 + b01 (P_num tx lo hi v q)) 8 = _
      rw [pk_un (by decide), pk_un (by decide), h2]
theorem TI.numN {tx : Gs} {lo hi : Int32} {d : Nat} {c : Gs} (h : TI c) : ∀ i, TI (F_numN tx lo hi d c i).2
  | 0 => h
  | i + 1 => TI.nst (TI.numN h i)
def mtX6_thrown : Mt := (yX6_thrown, cX6_thrown, 1, (some .int), 0, 0, 0, 0)
theorem kX6_thrown_0 : Dk mtX6_thrown 0 (.aload_n 0) 1 1 := ⟨by decide +kernel, rfl⟩
theorem kX6_thrown_1 : Dk mtX6_thrown 1 (.getfield 32) 3 4 := ⟨by decide +kernel, rfl⟩
theorem kX6_thrown_4 : Dk mtX6_thrown 4 (.ireturn) 1 5 := ⟨by decide +kernel, rfl⟩
set_option maxHeartbeats 4000000 in
set_option maxRecDepth 100000 in
theorem ct_thrown {l : Launch} {w : Wd} {sg : Sg} (hWr : Wr w) {mo : Nat} : M l mtX6_thrown w [vR (some (6, 0, mo))] sg (fI (sg mo 0) sg) := by
  refine M_of [some (vR (some (6, 0, mo)))] rfl (Nat.le_of_ble_eq_true rfl) (by decide +kernel) ?_
  intro p_ e_ s_ m_ args_ below_ meth_ c_ hC hO
  refine V_aload_n hC kX6_thrown_0 rfl ?_
  refine V_getI hC 6 0 lfX6_32 kX6_thrown_1 (Nat.le_of_ble_eq_true rfl) (Nat.le_of_ble_eq_true rfl) rfl ?_
  refine V_ireti hC rfl kX6_thrown_4 ?_
  exact ⟨by with_reducible rfl, by with_reducible rfl⟩
def mtX6_sign : Mt := (yX6_sign, cX6_sign, 1, (some .int), 0, 0, 0, 0)
theorem kX6_sign_0 : Dk mtX6_sign 0 (.aload_n 0) 1 1 := ⟨by decide +kernel, rfl⟩
theorem kX6_sign_1 : Dk mtX6_sign 1 (.getfield 133) 3 4 := ⟨by decide +kernel, rfl⟩
theorem kX6_sign_4 : Dk mtX6_sign 4 (.aload_n 0) 1 5 := ⟨by decide +kernel, rfl⟩
theorem kX6_sign_5 : Dk mtX6_sign 5 (.getfield 130) 3 8 := ⟨by decide +kernel, rfl⟩
theorem kX6_sign_8 : Dk mtX6_sign 8 (.if_icmp .ge 15) 3 11 := ⟨by decide +kernel, rfl⟩
theorem kX6_sign_11 : Dk mtX6_sign 11 (.aload_n 0) 1 12 := ⟨by decide +kernel, rfl⟩
theorem kX6_sign_12 : Dk mtX6_sign 12 (.getfield 26) 3 15 := ⟨by decide +kernel, rfl⟩
theorem kX6_sign_15 : Dk mtX6_sign 15 (.aload_n 0) 1 16 := ⟨by decide +kernel, rfl⟩
theorem kX6_sign_16 : Dk mtX6_sign 16 (.getfield 133) 3 19 := ⟨by decide +kernel, rfl⟩
theorem kX6_sign_19 : Dk mtX6_sign 19 (.iaload) 1 20 := ⟨by decide +kernel, rfl⟩
theorem kX6_sign_20 : Dk mtX6_sign 20 (.goto 4) 3 23 := ⟨by decide +kernel, rfl⟩
theorem kX6_sign_23 : Dk mtX6_sign 23 (.iconst 0) 1 24 := ⟨by decide +kernel, rfl⟩
theorem kX6_sign_24 : Dk mtX6_sign 24 (.ireturn) 1 25 := ⟨by decide +kernel, rfl⟩
theorem lfX6_133 : LkF RX6 133 6 9 := Or.inl (by decide +kernel)
theorem lfX6_130 : LkF RX6 130 6 8 := Or.inl (by decide +kernel)
theorem lfX6_26 : LkF RX6 26 6 7 := Or.inl (by decide +kernel)
set_option maxHeartbeats 4000000 in
set_option maxRecDepth 100000 in
theorem ct_sign {l : Launch} {w : Wd} {sg : Sg} (hWr : Wr w) {mo : Nat} (hT : TI (sg mo)) : M l mtX6_sign w [vR (some (6, 0, mo))] sg (fI (F_sign (sg mo) (sg (mo + 6))) sg) := by
  refine M_of [some (vR (some (6, 0, mo)))] rfl (Nat.le_of_ble_eq_true rfl) (by decide +kernel) ?_
  intro p_ e_ s_ m_ args_ below_ meth_ c_ hC hO
  refine V_join 24 (F_sign (sg mo) (sg (mo + 6))) ?_ (fun j24 => ?_)
  · refine V_ireti hC rfl kX6_sign_24 ?_
    exact ⟨by with_reducible rfl, by with_reducible rfl⟩
  · refine V_aload_n hC kX6_sign_0 rfl ?_
    refine V_getI hC 6 9 lfX6_133 kX6_sign_1 (Nat.le_of_ble_eq_true rfl) (Nat.le_of_ble_eq_true rfl) rfl ?_
    refine V_aload_n hC kX6_sign_4 rfl ?_
    refine V_getI hC 6 8 lfX6_130 kX6_sign_5 (Nat.le_of_ble_eq_true rfl) (Nat.le_of_ble_eq_true rfl) rfl ?_
    refine V_icmp_ge hC 23 kX6_sign_8 (by decide) (fun h8 => ?_) (fun h8 => ?_)
    · refine V_iconst hC (0) kX6_sign_23 (by decide) ?_
      exact j24 _ ((by rw [F_sign, if_neg (Int32.not_lt.mpr h8)]))
    · refine V_aload_n hC kX6_sign_11 rfl ?_
      refine V_getR hC hWr 6 7 lfX6_26 kX6_sign_12 (Nat.le_of_ble_eq_true rfl) (Nat.le_of_ble_eq_true rfl) rfl ?_
      refine V_aload_n hC kX6_sign_15 rfl ?_
      refine V_getI hC 6 9 lfX6_133 kX6_sign_16 (Nat.le_of_ble_eq_true rfl) (Nat.le_of_ble_eq_true rfl) rfl ?_
      refine V_iald hC _ rfl kX6_sign_19 (hT.at_in (Int32.not_le.mp h8)) ?_
      refine V_goto hC 24 kX6_sign_20 (by decide) ?_
      exact j24 _ ((by rw [F_sign, if_pos (Int32.not_le.mp h8)]))
def mtX6_number : Mt := (yX6_number, cX6_number, 7, (some .int), 1, 22, 0, 0)
theorem kX6_number_0 : Dk mtX6_number 0 (.iload_n 1) 1 1 := ⟨by decide +kernel, rfl⟩
theorem kX6_number_1 : Dk mtX6_number 1 (.iconst 3) 1 2 := ⟨by decide +kernel, rfl⟩
theorem kX6_number_2 : Dk mtX6_number 2 (.if_icmp .ne 8) 3 5 := ⟨by decide +kernel, rfl⟩
theorem kX6_number_5 : Dk mtX6_number 5 (.bipush 100) 2 7 := ⟨by decide +kernel, rfl⟩
theorem kX6_number_7 : Dk mtX6_number 7 (.goto 14) 3 10 := ⟨by decide +kernel, rfl⟩
theorem kX6_number_10 : Dk mtX6_number 10 (.iload_n 1) 1 11 := ⟨by decide +kernel, rfl⟩
theorem kX6_number_11 : Dk mtX6_number 11 (.iconst 2) 1 12 := ⟨by decide +kernel, rfl⟩
theorem kX6_number_12 : Dk mtX6_number 12 (.if_icmp .ne 8) 3 15 := ⟨by decide +kernel, rfl⟩
theorem kX6_number_15 : Dk mtX6_number 15 (.bipush 10) 2 17 := ⟨by decide +kernel, rfl⟩
theorem kX6_number_17 : Dk mtX6_number 17 (.goto 4) 3 20 := ⟨by decide +kernel, rfl⟩
theorem kX6_number_20 : Dk mtX6_number 20 (.iconst 1) 1 21 := ⟨by decide +kernel, rfl⟩
theorem kX6_number_21 : Dk mtX6_number 21 (.istore 4) 2 23 := ⟨by decide +kernel, rfl⟩
theorem kX6_number_23 : Dk mtX6_number 23 (.iconst 0) 1 24 := ⟨by decide +kernel, rfl⟩
theorem kX6_number_24 : Dk mtX6_number 24 (.istore 5) 2 26 := ⟨by decide +kernel, rfl⟩
theorem kX6_number_26 : Dk mtX6_number 26 (.iload 4) 2 28 := ⟨by decide +kernel, rfl⟩
theorem kX6_number_28 : Dk mtX6_number 28 (.ifCond .le 98) 3 31 := ⟨by decide +kernel, rfl⟩
theorem kX6_number_31 : Dk mtX6_number 31 (.iload 5) 2 33 := ⟨by decide +kernel, rfl⟩
theorem kX6_number_33 : Dk mtX6_number 33 (.iload 4) 2 35 := ⟨by decide +kernel, rfl⟩
theorem kX6_number_35 : Dk mtX6_number 35 (.aload_n 0) 1 36 := ⟨by decide +kernel, rfl⟩
theorem kX6_number_36 : Dk mtX6_number 36 (.invokevirtual 136) 3 39 := ⟨by decide +kernel, rfl⟩
theorem kX6_number_39 : Dk mtX6_number 39 (.bipush 48) 2 41 := ⟨by decide +kernel, rfl⟩
theorem kX6_number_41 : Dk mtX6_number 41 (.isub) 1 42 := ⟨by decide +kernel, rfl⟩
theorem kX6_number_42 : Dk mtX6_number 42 (.imul) 1 43 := ⟨by decide +kernel, rfl⟩
theorem kX6_number_43 : Dk mtX6_number 43 (.iadd) 1 44 := ⟨by decide +kernel, rfl⟩
theorem kX6_number_44 : Dk mtX6_number 44 (.istore 6) 2 46 := ⟨by decide +kernel, rfl⟩
theorem kX6_number_46 : Dk mtX6_number 46 (.aload_n 0) 1 47 := ⟨by decide +kernel, rfl⟩
theorem kX6_number_47 : Dk mtX6_number 47 (.aload_n 0) 1 48 := ⟨by decide +kernel, rfl⟩
theorem kX6_number_48 : Dk mtX6_number 48 (.getfield 140) 3 51 := ⟨by decide +kernel, rfl⟩
theorem kX6_number_51 : Dk mtX6_number 51 (.ifCond .eq 36) 3 54 := ⟨by decide +kernel, rfl⟩
theorem kX6_number_54 : Dk mtX6_number 54 (.aload_n 0) 1 55 := ⟨by decide +kernel, rfl⟩
theorem kX6_number_55 : Dk mtX6_number 55 (.invokevirtual 136) 3 58 := ⟨by decide +kernel, rfl⟩
theorem kX6_number_58 : Dk mtX6_number 58 (.bipush 48) 2 60 := ⟨by decide +kernel, rfl⟩
theorem kX6_number_60 : Dk mtX6_number 60 (.bipush 57) 2 62 := ⟨by decide +kernel, rfl⟩
theorem kX6_number_62 : Dk mtX6_number 62 (.invokestatic 39) 3 65 := ⟨by decide +kernel, rfl⟩
theorem kX6_number_65 : Dk mtX6_number 65 (.ifCond .eq 22) 3 68 := ⟨by decide +kernel, rfl⟩
theorem kX6_number_68 : Dk mtX6_number 68 (.iload 6) 2 70 := ⟨by decide +kernel, rfl⟩
theorem kX6_number_70 : Dk mtX6_number 70 (.iload_n 3) 1 71 := ⟨by decide +kernel, rfl⟩
theorem kX6_number_71 : Dk mtX6_number 71 (.if_icmp .gt 16) 3 74 := ⟨by decide +kernel, rfl⟩
theorem kX6_number_74 : Dk mtX6_number 74 (.iload 6) 2 76 := ⟨by decide +kernel, rfl⟩
theorem kX6_number_76 : Dk mtX6_number 76 (.iload 4) 2 78 := ⟨by decide +kernel, rfl⟩
theorem kX6_number_78 : Dk mtX6_number 78 (.iadd) 1 79 := ⟨by decide +kernel, rfl⟩
theorem kX6_number_79 : Dk mtX6_number 79 (.iload_n 2) 1 80 := ⟨by decide +kernel, rfl⟩
theorem kX6_number_80 : Dk mtX6_number 80 (.if_icmp .le 7) 3 83 := ⟨by decide +kernel, rfl⟩
theorem kX6_number_83 : Dk mtX6_number 83 (.iconst 1) 1 84 := ⟨by decide +kernel, rfl⟩
theorem kX6_number_84 : Dk mtX6_number 84 (.goto 4) 3 87 := ⟨by decide +kernel, rfl⟩
theorem kX6_number_87 : Dk mtX6_number 87 (.iconst 0) 1 88 := ⟨by decide +kernel, rfl⟩
theorem kX6_number_88 : Dk mtX6_number 88 (.putfield 140) 3 91 := ⟨by decide +kernel, rfl⟩
theorem kX6_number_91 : Dk mtX6_number 91 (.aload_n 0) 1 92 := ⟨by decide +kernel, rfl⟩
theorem kX6_number_92 : Dk mtX6_number 92 (.dup) 1 93 := ⟨by decide +kernel, rfl⟩
theorem kX6_number_93 : Dk mtX6_number 93 (.getfield 133) 3 96 := ⟨by decide +kernel, rfl⟩
theorem kX6_number_96 : Dk mtX6_number 96 (.aload_n 0) 1 97 := ⟨by decide +kernel, rfl⟩
theorem kX6_number_97 : Dk mtX6_number 97 (.getfield 140) 3 100 := ⟨by decide +kernel, rfl⟩
theorem kX6_number_100 : Dk mtX6_number 100 (.ifCond .eq 7) 3 103 := ⟨by decide +kernel, rfl⟩
theorem kX6_number_103 : Dk mtX6_number 103 (.iconst 1) 1 104 := ⟨by decide +kernel, rfl⟩
theorem kX6_number_104 : Dk mtX6_number 104 (.goto 4) 3 107 := ⟨by decide +kernel, rfl⟩
theorem kX6_number_107 : Dk mtX6_number 107 (.iconst 0) 1 108 := ⟨by decide +kernel, rfl⟩
theorem kX6_number_108 : Dk mtX6_number 108 (.iadd) 1 109 := ⟨by decide +kernel, rfl⟩
theorem kX6_number_109 : Dk mtX6_number 109 (.putfield 133) 3 112 := ⟨by decide +kernel, rfl⟩
theorem kX6_number_112 : Dk mtX6_number 112 (.iload 6) 2 114 := ⟨by decide +kernel, rfl⟩
theorem kX6_number_114 : Dk mtX6_number 114 (.istore 5) 2 116 := ⟨by decide +kernel, rfl⟩
theorem kX6_number_116 : Dk mtX6_number 116 (.iload 4) 2 118 := ⟨by decide +kernel, rfl⟩
theorem kX6_number_118 : Dk mtX6_number 118 (.bipush 10) 2 120 := ⟨by decide +kernel, rfl⟩
theorem kX6_number_120 : Dk mtX6_number 120 (.idiv) 1 121 := ⟨by decide +kernel, rfl⟩
theorem kX6_number_121 : Dk mtX6_number 121 (.istore 4) 2 123 := ⟨by decide +kernel, rfl⟩
theorem kX6_number_123 : Dk mtX6_number 123 (.goto (-97)) 3 126 := ⟨by decide +kernel, rfl⟩
theorem kX6_number_126 : Dk mtX6_number 126 (.iload 5) 2 128 := ⟨by decide +kernel, rfl⟩
theorem kX6_number_128 : Dk mtX6_number 128 (.ireturn) 1 129 := ⟨by decide +kernel, rfl⟩
theorem lmX6_136 : LkM RX6 136 mtX6_sign := Or.inl (by decide +kernel)
theorem mkX6_sign : MkV mtX6_sign 0 := ⟨List.mem_of_getElem? (i := 1098) (by decide +kernel), by decide +kernel, by decide +kernel, by decide +kernel, ⟨by decide +kernel, by decide +kernel, by decide +kernel⟩⟩
theorem lfX6_140 : LkF RX6 140 6 10 := Or.inl (by decide +kernel)
set_option maxHeartbeats 4000000 in
set_option maxRecDepth 100000 in
theorem ct_number {l : Launch} {w : Wd} {sg : Sg} (hWr : Wr w) {mo d : Nat} {dI : Int32} (lo mx : Int32) (hd : 1 ≤ d) (hd3 : d ≤ 3) (ed : dI = nI d) (hT : TI (sg mo)) : M l mtX6_number w [vR (some (6, 0, mo)), vI dI, vI lo, vI mx] sg (fI (F_num (sg (mo + 6)) lo mx d (sg mo)).1 (upr sg mo (F_num (sg (mo + 6)) lo mx d (sg mo)).2)) := by
  refine M_of [some (vR (some (6, 0, mo))), some (vI dI), some (vI lo), some (vI mx), none, none, none] rfl (Nat.le_of_ble_eq_true rfl) (by decide +kernel) ?_
  intro p_ e_ s_ m_ args_ below_ meth_ c_ hC hO
  subst ed
  refine V_join 21 (dv d 0) ?_ (fun j21 => ?_)
  · refine V_istore hC [some _, some _, some _, some _, some _, none, none] kX6_number_21 rfl (Nat.le_of_ble_eq_true rfl) ?_
    refine V_iconst hC (0) kX6_number_23 (by decide) ?_
    refine V_istore hC [some _, some _, some _, some _, some _, some _, none] kX6_number_24 rfl (Nat.le_of_ble_eq_true rfl) ?_
    refine V_canon (upr sg mo (F_numN (sg (mo + 6)) lo mx d (sg mo) 0).2) (by rw [F_numN]; exact (upr_self _ _).symm) ?_
    refine V_loop d (fun i => [some (vR (some (6, 0, mo))), some (vI (nI d)), some (vI lo), some (vI mx), some (vI (dv d i)), some (vI (F_numN (sg (mo + 6)) lo mx d (sg mo) i).1), none]) (fun i => upr sg mo (F_numN (sg (mo + 6)) lo mx d (sg mo) i).2) rfl rfl ?_ (fun i hi ihi => ?_)
    · refine V_iload hC kX6_number_26 rfl ?_
      refine V_if_le hC 126 kX6_number_28 (by decide) (fun h28 => ?_) (fun h28 => absurd h28 (not_not_intro (by rw [dv_d]; decide)))
      refine V_iload hC kX6_number_126 rfl ?_
      refine V_ireti hC rfl kX6_number_128 ?_
      unfold F_num
      exact ⟨by with_reducible rfl, by with_reducible rfl⟩
    · obtain ⟨hv1, hv2⟩ := dv_s hd3 hi
      have hTi : TI (F_numN (sg (mo + 6)) lo mx d (sg mo) i).2 := hT.numN i
      refine V_iload hC kX6_number_26 rfl ?_
      refine V_if_le hC 126 kX6_number_28 (by decide) (fun h28 => absurd h28 hv2) (fun h28 => ?_)
      refine V_iload hC kX6_number_31 rfl ?_
      refine V_iload hC kX6_number_33 rfl ?_
      refine V_aload_n hC kX6_number_35 rfl ?_
      refine V_cV_fI hC (ct_sign hWr (by rw [upr_at]; exact hTi)) mkX6_sign lmX6_136 kX6_number_36 (Nat.le_of_ble_eq_true rfl) rfl rfl rfl (Nat.le_of_ble_eq_true rfl) ⟨(Nat.le_of_ble_eq_true rfl), (Nat.le_of_ble_eq_true rfl)⟩ ⟨rfl, rfl⟩ ⟨(Nat.le_of_ble_eq_true rfl), (Nat.le_of_ble_eq_true rfl)⟩ ?_
      refine V_bipush hC (48) kX6_number_39 (by decide) ?_
      refine V_isub hC kX6_number_41 ?_
      refine V_imul hC kX6_number_42 ?_
      refine V_iadd hC kX6_number_43 ?_
      refine V_istore hC [some _, some _, some _, some _, some _, some _, some _] kX6_number_44 rfl (Nat.le_of_ble_eq_true rfl) ?_
      refine V_aload_n hC kX6_number_46 rfl ?_
      refine V_join 88 (b01 (P_num (sg (mo + 6)) lo mx (dv d i) (F_numN (sg (mo + 6)) lo mx d (sg mo) i))) ?_ (fun j88 => ?_)
      · refine V_putI hC 6 10 lfX6_140 kX6_number_88 (Nat.le_of_ble_eq_true rfl) (Nat.le_of_ble_eq_true rfl) rfl rfl (b01_nar _) ?_
        refine V_aload_n hC kX6_number_91 rfl ?_
        refine V_dup hC kX6_number_92 rfl ?_
        refine V_getI hC 6 9 lfX6_133 kX6_number_93 (Nat.le_of_ble_eq_true rfl) (Nat.le_of_ble_eq_true rfl) rfl ?_
        refine V_join 108 (b01 (P_num (sg (mo + 6)) lo mx (dv d i) (F_numN (sg (mo + 6)) lo mx d (sg mo) i))) ?_ (fun j108 => ?_)
        · refine V_iadd hC kX6_number_108 ?_
          refine V_putI hC 6 9 lfX6_133 kX6_number_109 (Nat.le_of_ble_eq_true rfl) (Nat.le_of_ble_eq_true rfl) rfl rfl ⟨rfl, rfl⟩ ?_
          refine V_iload hC kX6_number_112 rfl ?_
          refine V_istore hC [some _, some _, some _, some _, some _, some _, some _] kX6_number_114 rfl (Nat.le_of_ble_eq_true rfl) ?_
          refine V_iload hC kX6_number_116 rfl ?_
          refine V_bipush hC (10) kX6_number_118 (by decide) ?_
          refine V_idiv hC kX6_number_120 (by decide) ?_
          refine V_istore hC [some _, some _, some _, some _, some _, some _, some _] kX6_number_121 rfl (Nat.le_of_ble_eq_true rfl) ?_
          refine V_goto hC 26 kX6_number_123 (by decide) ?_
          refine V_drop 6 [_, _, _, _, _, _, none] rfl ?_
          refine V_eq ?_ ?_ ihi
          · rw [hv1, upr_at, upr_ne _ _ (by omega), F_numN, F_nst]
          · rw [F_numN, F_nst]
            unfold ups
            simp only [upr_at, upr_upr]
            rw [pk_un (by decide)]
        · refine V_aload_n hC kX6_number_96 rfl ?_
          refine V_getI hC 6 10 lfX6_140 kX6_number_97 (Nat.le_of_ble_eq_true rfl) (Nat.le_of_ble_eq_true rfl) rfl ?_
          refine V_if_eq hC 107 kX6_number_100 (by decide) (fun h100 => ?_) (fun h100 => ?_)
          · refine V_iconst hC (0) kX6_number_107 (by decide) ?_
            exact j108 _ ((b01_f (fun z => by rw [ups_at, pk_us, b01_t z] at h100; exact absurd h100 (by decide))).symm)
          · refine V_iconst hC (1) kX6_number_103 (by decide) ?_
            refine V_goto hC 108 kX6_number_104 (by decide) ?_
            exact j108 _ ((b01_t (Classical.byContradiction (fun z => h100 (by rw [ups_at, pk_us, b01_f z])))).symm)
      · refine V_aload_n hC kX6_number_47 rfl ?_
        refine V_getI hC 6 10 lfX6_140 kX6_number_48 (Nat.le_of_ble_eq_true rfl) (Nat.le_of_ble_eq_true rfl) rfl ?_
        refine V_if_eq hC 87 kX6_number_51 (by decide) (fun h51 => ?_) (fun h51 => ?_)
        · refine V_iconst hC (0) kX6_number_87 (by decide) ?_
          exact j88 _ ((b01_f (fun z => z.1 (by rw [upr_at] at h51; exact h51))).symm)
        · refine V_aload_n hC kX6_number_54 rfl ?_
          refine V_cV_fI hC (ct_sign hWr (by rw [upr_at]; exact hTi)) mkX6_sign lmX6_136 kX6_number_55 (Nat.le_of_ble_eq_true rfl) rfl rfl rfl (Nat.le_of_ble_eq_true rfl) ⟨(Nat.le_of_ble_eq_true rfl), (Nat.le_of_ble_eq_true rfl)⟩ ⟨rfl, rfl⟩ ⟨(Nat.le_of_ble_eq_true rfl), (Nat.le_of_ble_eq_true rfl)⟩ ?_
          refine V_bipush hC (48) kX6_number_58 (by decide) ?_
          refine V_bipush hC (57) kX6_number_60 (by decide) ?_
          refine V_cS_fI hC (ct_in hWr _ _ _) mkX6_in lmX6_39 kX6_number_62 rfl rfl (Nat.le_of_ble_eq_true rfl) ⟨(Nat.le_of_ble_eq_true rfl), (Nat.le_of_ble_eq_true rfl)⟩ ⟨rfl, rfl⟩ ⟨(Nat.le_of_ble_eq_true rfl), (Nat.le_of_ble_eq_true rfl)⟩ ?_
          refine V_if_eq hC 87 kX6_number_65 (by decide) (fun h65 => ?_) (fun h65 => ?_)
          · refine V_iconst hC (0) kX6_number_87 (by decide) ?_
            exact j88 _ ((b01_f (fun z => b01e.mp h65 (by rw [upr_at, upr_ne _ _ (by omega)]; exact z.2.1))).symm)
          · refine V_iload hC kX6_number_68 rfl ?_
            refine V_iload_n hC kX6_number_70 rfl ?_
            refine V_icmp_gt hC 87 kX6_number_71 (by decide) (fun h71 => ?_) (fun h71 => ?_)
            · refine V_iconst hC (0) kX6_number_87 (by decide) ?_
              exact j88 _ ((b01_f (fun z => Int32.not_lt.mpr z.2.2.1 (by rw [upr_at, upr_ne _ _ (by omega)] at h71; exact h71))).symm)
            · refine V_iload hC kX6_number_74 rfl ?_
              refine V_iload hC kX6_number_76 rfl ?_
              refine V_iadd hC kX6_number_78 ?_
              refine V_iload_n hC kX6_number_79 rfl ?_
              refine V_icmp_le hC 87 kX6_number_80 (by decide) (fun h80 => ?_) (fun h80 => ?_)
              · refine V_iconst hC (0) kX6_number_87 (by decide) ?_
                exact j88 _ ((b01_f (fun z => Int32.not_lt.mpr (by rw [upr_at, upr_ne _ _ (by omega)] at h80; exact h80) z.2.2.2)).symm)
              · refine V_iconst hC (1) kX6_number_83 (by decide) ?_
                refine V_goto hC 88 kX6_number_84 (by decide) ?_
                exact j88 _ ((b01_t ⟨fun z => h51 (by rw [upr_at]; exact z), by have := b01n.mp h65; rw [upr_at, upr_ne _ _ (by omega)] at this; exact this, by rw [upr_at, upr_ne _ _ (by omega)] at h71; exact Int32.not_lt.mp h71, by rw [upr_at, upr_ne _ _ (by omega)] at h80; exact Int32.not_le.mp h80⟩).symm)
  · refine V_iload_n hC kX6_number_0 rfl ?_
    refine V_iconst hC (3) kX6_number_1 (by decide) ?_
    refine V_icmp_ne hC 10 kX6_number_2 (by decide) (fun h2 => ?_) (fun h2 => ?_)
    · refine V_iload_n hC kX6_number_10 rfl ?_
      refine V_iconst hC (2) kX6_number_11 (by decide) ?_
      refine V_icmp_ne hC 20 kX6_number_12 (by decide) (fun h12 => ?_) (fun h12 => ?_)
      · refine V_iconst hC (1) kX6_number_20 (by decide) ?_
        exact j21 _ ((dv_10 h12 h2 hd hd3))
      · refine V_bipush hC (10) kX6_number_15 (by decide) ?_
        refine V_goto hC 21 kX6_number_17 (by decide) ?_
        exact j21 _ ((dv_20 h12 hd3))
    · refine V_bipush hC (100) kX6_number_5 (by decide) ?_
      refine V_goto hC 21 kX6_number_7 (by decide) ?_
      exact j21 _ ((dv_30 h2 hd3))
