-- HOW ct_in fI
-- HOW ct_fails fI
-- HOW ct_of fI
-- HOW ct_ofBoat fI
-- HOW ct_layBoat fV
-- HOW ct_isLight fI
-- HOW ct_isBoat fI
-- HOW ct_isPlace fI
-- HOW ct_bright fI
-- HOW ct_worth fI
-- HOW ct_serves fI
-- HOW ct_best fI
-- HOW ct_sails fV
-- HOW ct_drops fV
-- HOW ct_wished fI
-- HOW ct_hands fV
-- HOW ct_wishes fV
-- HOW ct_finds fV
-- HOW ct_goesOn fV
-- HOW ct_goesTick fV
-- HOW ct_goesBy fI
-- HOW ct_putAside fV
-- HOW ct_takeBack fV
-- HOW ct_isLamp fI
-- HOW ct_addsLight fI
-- HOW ct_actsLight fI
-- HOW ct_addsBoat fI
-- HOW ct_actsBoat fI
-- HOW ct_actsSteer fI
-- HOW ct_canTalk fI
-- HOW ct_actsTalk fI
-- HOW ct_actsLean fI
-- HOW ct_actsDim fI
-- HOW ct_mostOf fI
-- HOW ct_isSetting fI
-- HOW ct_actsSet fI
-- HOW ct_actsTicks fI
-- HOW ct_boatsThat fI
-- HOW ct_servedBy fI
-- HOW ct_begins fV
-- HOW ct_tellsAbout fI
-- HOW ct_about fM
-- HOW ct_lightOf fM
-- HOW ct_boatOf fM
-- HOW ct_brightness fM
-- HOW ct_bestAt fM
-- HOW ct_setting fM
-- HOW ct_saves fV
-- HOW ct_light fM
-- HOW ct_boat fM
-- HOW ct_steer fM
-- HOW ct_talk fM
-- HOW ct_lean fM
-- HOW ct_dim fM
-- HOW ct_set fM
-- HOW ct_ticks fM
-- HOW ct_undo fM
-- HOW ct_save fM
-- HOW ct_restore fM
-- HOW ct_bringsBy fI
-- HOW ct_ifMargin fM
-- HOW ct_held fI
-- HOW ct_room fI
-- HOW ct_dark fI
-- HOW ct_turns fV
-- HOW ct_simulate fM
-- HOW ct_border fM
-- HOW ct_handedIn fM
-- HOW ct_bestMargin fM
-- HOW ct_thrown fI
-- HOW ct_sign fI
-- HOW ct_number fI
-- HOW ct_carriesLight fI
/-! the reference: reading the text -/
def fm (a : Int32) (i : Nat) : Nat × Int32 × Int32 :=
  if a = 108 then (match i with | 0 => (3, 0, 199) | 1 => (2, 10, 99) | 2 => (1, 0, 2) | 3 => (2, 1, 20) | 4 => (1, 1, 6) | _ => (1, 0, 6))
  else if a = 98 then (match i with | 0 => (3, 0, 199) | _ => (2, 0, 12))
  else if a = 107 then (match i with | 0 => (1, 0, 7) | _ => (2, 1, 99))
  else if a = 118 then (match i with | 0 => (1, 0, 7) | _ => (2, 0, 12))
  else if a = 109 then (3, 0, 100)
  else (2, 1, 60)
def nfm (a : Int32) : Nat := if a = 108 then 6 else if a = 98 ∨ a = 107 ∨ a = 118 then 2 else 1
def F_nms (tx : Gs) (a : Int32) (c : Gs) : Nat → Int32 × Gs
  | 0 => (0, c)
  | i + 1 => F_num tx (fm a i).2.1 (fm a i).2.2 (fm a i).1 (F_nms tx a c i).2
theorem F_nms_s {tx : Gs} {a : Int32} {c : Gs} {i d : Nat} {lo hi : Int32} (h : fm a i = (d, lo, hi)) : F_nms tx a c (i + 1) = F_num tx lo hi d (F_nms tx a c i).2 := by
  rw [F_nms, h]
theorem TI.nms {tx : Gs} {a : Int32} {c : Gs} (h : TI c) : ∀ i, TI (F_nms tx a c i).2
  | 0 => h
  | i + 1 => TI.numN (TI.nms h i) _
abbrev cCmd (a : Int32) : Prop := a = 108 ∨ a = 98 ∨ a = 107 ∨ a = 118 ∨ a = 109 ∨ a = 116
def F_obR (g : Gs) (a : Int32) (v : Nat → Int32) : Int32 :=
  if a = 108 then (if cLight g (v 0) (v 1) (v 2) (v 3) (v 4) (v 5) then F_addLight g (v 0) (v 1) (v 2) (v 3) (v 4) (v 5) 4 - 1 else -1)
  else if a = 98 then (if cBoat g (v 0) (v 1 - 6) then g 5 else -1)
  else if a = 107 then (if cTalk g (v 0) (v 1) then 0 else -1)
  else if a = 118 then (if cSteer g (v 0) (v 1 - 6) then 0 else -1)
  else if a = 109 then (if cSet 0 (v 0) then 0 else -1)
  else (if inn (v 0) 1 60 then F_ticks g (tn (v 0)) 7 - g 7 else -1)
def F_obG (g : Gs) (a : Int32) (v : Nat → Int32) : Gs :=
  if a = 108 then (if cLight g (v 0) (v 1) (v 2) (v 3) (v 4) (v 5) then F_addLight g (v 0) (v 1) (v 2) (v 3) (v 4) (v 5) else g)
  else if a = 98 then (if cBoat g (v 0) (v 1 - 6) then F_addBoat g (v 0) (v 1 - 6) else g)
  else if a = 107 then (if cTalk g (v 0) (v 1) then pB g (v 0) 3 (v 1) else g)
  else if a = 118 then (if cSteer g (v 0) (v 1 - 6) then pB g (v 0) 1 (v 1 - 6) else g)
  else if a = 109 then (if cSet 0 (v 0) then upd g (tn 0) (v 0) else g)
  else (if inn (v 0) 1 60 then F_ticks g (tn (v 0)) else g)
def F_vals (tx : Gs) (a : Int32) (c : Gs) (i : Nat) : Int32 := (F_nms tx a c (i + 1)).1
def F_rd (tx : Gs) (a : Int32) (c : Gs) : Gs := (F_nms tx a c (nfm a)).2
abbrev P_obey (tx : Gs) (a : Int32) (c : Gs) : Prop := ¬ F_rd tx a c 10 = 0 ∧ ¬ F_rd tx a c 11 = 0
def R_carries (tx : Gs) (a : Int32) (c g : Gs) : Int32 := if P_obey tx a c then F_obR g a (F_vals tx a c) else 0
def G_carries (tx : Gs) (a : Int32) (c g : Gs) : Gs := if P_obey tx a c then F_obG g a (F_vals tx a c) else g
theorem upr_same {sg : Sg} {k : Nat} {r : Nat → Int32} (h : sg k = r) : upr sg k r = sg := by rw [← h, upr_self]
theorem rd_108 (tx c : Gs) : F_rd tx 108 c = (F_nms tx 108 c 6).2 := by rw [F_rd, show nfm 108 = 6 by decide +kernel]
theorem obR_108 (g : Gs) (v : Nat → Int32) : F_obR g 108 v = (if cLight g (v 0) (v 1) (v 2) (v 3) (v 4) (v 5) then F_addLight g (v 0) (v 1) (v 2) (v 3) (v 4) (v 5) 4 - 1 else -1) := if_pos rfl
theorem obG_108 (g : Gs) (v : Nat → Int32) : F_obG g 108 v = (if cLight g (v 0) (v 1) (v 2) (v 3) (v 4) (v 5) then F_addLight g (v 0) (v 1) (v 2) (v 3) (v 4) (v 5) else g) := if_pos rfl
theorem fm_108_0 : fm 108 0 = (3, 0, 199) := by decide +kernel
theorem fm_108_1 : fm 108 1 = (2, 10, 99) := by decide +kernel
theorem fm_108_2 : fm 108 2 = (1, 0, 2) := by decide +kernel
theorem fm_108_3 : fm 108 3 = (2, 1, 20) := by decide +kernel
theorem fm_108_4 : fm 108 4 = (1, 1, 6) := by decide +kernel
theorem fm_108_5 : fm 108 5 = (1, 0, 6) := by decide +kernel
theorem fm_98_0 : fm 98 0 = (3, 0, 199) := by decide +kernel
theorem fm_98_1 : fm 98 1 = (2, 0, 12) := by decide +kernel
theorem fm_107_0 : fm 107 0 = (1, 0, 7) := by decide +kernel
theorem fm_107_1 : fm 107 1 = (2, 1, 99) := by decide +kernel
theorem fm_118_0 : fm 118 0 = (1, 0, 7) := by decide +kernel
theorem fm_118_1 : fm 118 1 = (2, 0, 12) := by decide +kernel
theorem fm_109_0 : fm 109 0 = (3, 0, 100) := by decide +kernel
theorem fm_116_0 : fm 116 0 = (2, 1, 60) := by decide +kernel
def mtX6_carriesLight : Mt := (yX6_carriesLight, cX6_carriesLight, 7, (some .int), 3, 74, 0, 0)
theorem kX6_carriesLight_0 : Dk mtX6_carriesLight 0 (.aload_n 0) 1 1 := ⟨by decide +kernel, rfl⟩
theorem kX6_carriesLight_1 : Dk mtX6_carriesLight 1 (.iconst 3) 1 2 := ⟨by decide +kernel, rfl⟩
theorem kX6_carriesLight_2 : Dk mtX6_carriesLight 2 (.iconst 0) 1 3 := ⟨by decide +kernel, rfl⟩
theorem kX6_carriesLight_3 : Dk mtX6_carriesLight 3 (.sipush 199) 3 6 := ⟨by decide +kernel, rfl⟩
theorem kX6_carriesLight_6 : Dk mtX6_carriesLight 6 (.invokevirtual 144) 3 9 := ⟨by decide +kernel, rfl⟩
theorem kX6_carriesLight_9 : Dk mtX6_carriesLight 9 (.istore_n 1) 1 10 := ⟨by decide +kernel, rfl⟩
theorem kX6_carriesLight_10 : Dk mtX6_carriesLight 10 (.aload_n 0) 1 11 := ⟨by decide +kernel, rfl⟩
theorem kX6_carriesLight_11 : Dk mtX6_carriesLight 11 (.iconst 2) 1 12 := ⟨by decide +kernel, rfl⟩
theorem kX6_carriesLight_12 : Dk mtX6_carriesLight 12 (.bipush 10) 2 14 := ⟨by decide +kernel, rfl⟩
theorem kX6_carriesLight_14 : Dk mtX6_carriesLight 14 (.bipush 99) 2 16 := ⟨by decide +kernel, rfl⟩
theorem kX6_carriesLight_16 : Dk mtX6_carriesLight 16 (.invokevirtual 144) 3 19 := ⟨by decide +kernel, rfl⟩
theorem kX6_carriesLight_19 : Dk mtX6_carriesLight 19 (.istore_n 2) 1 20 := ⟨by decide +kernel, rfl⟩
theorem kX6_carriesLight_20 : Dk mtX6_carriesLight 20 (.aload_n 0) 1 21 := ⟨by decide +kernel, rfl⟩
theorem kX6_carriesLight_21 : Dk mtX6_carriesLight 21 (.iconst 1) 1 22 := ⟨by decide +kernel, rfl⟩
theorem kX6_carriesLight_22 : Dk mtX6_carriesLight 22 (.iconst 0) 1 23 := ⟨by decide +kernel, rfl⟩
theorem kX6_carriesLight_23 : Dk mtX6_carriesLight 23 (.iconst 2) 1 24 := ⟨by decide +kernel, rfl⟩
theorem kX6_carriesLight_24 : Dk mtX6_carriesLight 24 (.invokevirtual 144) 3 27 := ⟨by decide +kernel, rfl⟩
theorem kX6_carriesLight_27 : Dk mtX6_carriesLight 27 (.istore_n 3) 1 28 := ⟨by decide +kernel, rfl⟩
theorem kX6_carriesLight_28 : Dk mtX6_carriesLight 28 (.aload_n 0) 1 29 := ⟨by decide +kernel, rfl⟩
theorem kX6_carriesLight_29 : Dk mtX6_carriesLight 29 (.iconst 2) 1 30 := ⟨by decide +kernel, rfl⟩
theorem kX6_carriesLight_30 : Dk mtX6_carriesLight 30 (.iconst 1) 1 31 := ⟨by decide +kernel, rfl⟩
theorem kX6_carriesLight_31 : Dk mtX6_carriesLight 31 (.bipush 20) 2 33 := ⟨by decide +kernel, rfl⟩
theorem kX6_carriesLight_33 : Dk mtX6_carriesLight 33 (.invokevirtual 144) 3 36 := ⟨by decide +kernel, rfl⟩
theorem kX6_carriesLight_36 : Dk mtX6_carriesLight 36 (.istore 4) 2 38 := ⟨by decide +kernel, rfl⟩
theorem kX6_carriesLight_38 : Dk mtX6_carriesLight 38 (.aload_n 0) 1 39 := ⟨by decide +kernel, rfl⟩
theorem kX6_carriesLight_39 : Dk mtX6_carriesLight 39 (.iconst 1) 1 40 := ⟨by decide +kernel, rfl⟩
theorem kX6_carriesLight_40 : Dk mtX6_carriesLight 40 (.iconst 1) 1 41 := ⟨by decide +kernel, rfl⟩
theorem kX6_carriesLight_41 : Dk mtX6_carriesLight 41 (.bipush 6) 2 43 := ⟨by decide +kernel, rfl⟩
theorem kX6_carriesLight_43 : Dk mtX6_carriesLight 43 (.invokevirtual 144) 3 46 := ⟨by decide +kernel, rfl⟩
theorem kX6_carriesLight_46 : Dk mtX6_carriesLight 46 (.istore 5) 2 48 := ⟨by decide +kernel, rfl⟩
theorem kX6_carriesLight_48 : Dk mtX6_carriesLight 48 (.aload_n 0) 1 49 := ⟨by decide +kernel, rfl⟩
theorem kX6_carriesLight_49 : Dk mtX6_carriesLight 49 (.iconst 1) 1 50 := ⟨by decide +kernel, rfl⟩
theorem kX6_carriesLight_50 : Dk mtX6_carriesLight 50 (.iconst 0) 1 51 := ⟨by decide +kernel, rfl⟩
theorem kX6_carriesLight_51 : Dk mtX6_carriesLight 51 (.bipush 6) 2 53 := ⟨by decide +kernel, rfl⟩
theorem kX6_carriesLight_53 : Dk mtX6_carriesLight 53 (.invokevirtual 144) 3 56 := ⟨by decide +kernel, rfl⟩
theorem kX6_carriesLight_56 : Dk mtX6_carriesLight 56 (.istore 6) 2 58 := ⟨by decide +kernel, rfl⟩
theorem kX6_carriesLight_58 : Dk mtX6_carriesLight 58 (.aload_n 0) 1 59 := ⟨by decide +kernel, rfl⟩
theorem kX6_carriesLight_59 : Dk mtX6_carriesLight 59 (.getfield 140) 3 62 := ⟨by decide +kernel, rfl⟩
theorem kX6_carriesLight_62 : Dk mtX6_carriesLight 62 (.ifCond .eq 26) 3 65 := ⟨by decide +kernel, rfl⟩
theorem kX6_carriesLight_65 : Dk mtX6_carriesLight 65 (.aload_n 0) 1 66 := ⟨by decide +kernel, rfl⟩
theorem kX6_carriesLight_66 : Dk mtX6_carriesLight 66 (.getfield 148) 3 69 := ⟨by decide +kernel, rfl⟩
theorem kX6_carriesLight_69 : Dk mtX6_carriesLight 69 (.ifCond .eq 19) 3 72 := ⟨by decide +kernel, rfl⟩
theorem kX6_carriesLight_72 : Dk mtX6_carriesLight 72 (.aload_n 0) 1 73 := ⟨by decide +kernel, rfl⟩
theorem kX6_carriesLight_73 : Dk mtX6_carriesLight 73 (.iload_n 1) 1 74 := ⟨by decide +kernel, rfl⟩
theorem kX6_carriesLight_74 : Dk mtX6_carriesLight 74 (.iload_n 2) 1 75 := ⟨by decide +kernel, rfl⟩
theorem kX6_carriesLight_75 : Dk mtX6_carriesLight 75 (.iload_n 3) 1 76 := ⟨by decide +kernel, rfl⟩
theorem kX6_carriesLight_76 : Dk mtX6_carriesLight 76 (.iload 4) 2 78 := ⟨by decide +kernel, rfl⟩
theorem kX6_carriesLight_78 : Dk mtX6_carriesLight 78 (.iload 5) 2 80 := ⟨by decide +kernel, rfl⟩
theorem kX6_carriesLight_80 : Dk mtX6_carriesLight 80 (.iload 6) 2 82 := ⟨by decide +kernel, rfl⟩
theorem kX6_carriesLight_82 : Dk mtX6_carriesLight 82 (.invokevirtual 151) 3 85 := ⟨by decide +kernel, rfl⟩
theorem kX6_carriesLight_85 : Dk mtX6_carriesLight 85 (.goto 4) 3 88 := ⟨by decide +kernel, rfl⟩
theorem kX6_carriesLight_88 : Dk mtX6_carriesLight 88 (.iconst 0) 1 89 := ⟨by decide +kernel, rfl⟩
theorem kX6_carriesLight_89 : Dk mtX6_carriesLight 89 (.ireturn) 1 90 := ⟨by decide +kernel, rfl⟩
theorem lmX6_144 : LkM RX6 144 mtX6_number := Or.inl (by decide +kernel)
theorem mkX6_number : MkV mtX6_number 3 := ⟨List.mem_of_getElem? (i := 1109) (by decide +kernel), by decide +kernel, by decide +kernel, by decide +kernel, ⟨by decide +kernel, by decide +kernel, by decide +kernel⟩⟩
theorem lfX6_148 : LkF RX6 148 6 11 := Or.inl (by decide +kernel)
set_option maxHeartbeats 4000000 in
set_option maxRecDepth 100000 in
theorem ct_carriesLight {l : Launch} {w : Wd} {sg : Sg} (hWr : Wr w) {mo : Nat} (hT : TI (sg mo)) (hI : Inv (sg (mo + 1))) : M l mtX6_carriesLight w [vR (some (6, 0, mo))] sg (fI (R_carries (sg (mo + 6)) 108 (sg mo) (sg (mo + 1))) (upr (upr sg mo (F_rd (sg (mo + 6)) 108 (sg mo))) (mo + 1) (G_carries (sg (mo + 6)) 108 (sg mo) (sg (mo + 1))))) := by
  refine M_of [some (vR (some (6, 0, mo))), none, none, none, none, none, none] rfl (Nat.le_of_ble_eq_true rfl) (by decide +kernel) ?_
  intro p_ e_ s_ m_ args_ below_ meth_ c_ hC hO
  refine V_canon (upr sg mo (F_nms (sg (mo + 6)) 108 (sg mo) 0).2) (by rw [F_nms]; exact (upr_self _ _).symm) ?_
  refine V_aload_n hC kX6_carriesLight_0 rfl ?_
  refine V_iconst hC (3) kX6_carriesLight_1 (by decide) ?_
  refine V_iconst hC (0) kX6_carriesLight_2 (by decide) ?_
  refine V_sipush hC (199) kX6_carriesLight_3 (by decide) ?_
  refine V_cV_fI hC (ct_number hWr (d := 3) 0 199 (by omega) (by omega) rfl (by rw [upr_at]; exact hT.nms 0)) mkX6_number lmX6_144 kX6_carriesLight_6 (Nat.le_of_ble_eq_true rfl) rfl rfl rfl (Nat.le_of_ble_eq_true rfl) ⟨(Nat.le_of_ble_eq_true rfl), (Nat.le_of_ble_eq_true rfl)⟩ ⟨rfl, rfl⟩ ⟨(Nat.le_of_ble_eq_true rfl), (Nat.le_of_ble_eq_true rfl)⟩ ?_
  refine V_nameI (fun q1 e_q1 => ?_)
  refine V_istore_n hC [some _, some _, none, none, none, none, none] kX6_carriesLight_9 rfl (Nat.le_of_ble_eq_true rfl) ?_
  rw [upr_at, upr_ne _ _ (by omega), ← F_nms_s (a := 108) (d := 3) (lo := 0) (hi := 199) (i := 0) fm_108_0] at e_q1
  refine V_canon (upr sg mo (F_nms (sg (mo + 6)) 108 (sg mo) 1).2) (by rw [upr_at, upr_ne _ _ (by omega), upr_upr, ← F_nms_s (a := 108) (d := 3) (lo := 0) (hi := 199) (i := 0) (by decide)]) ?_
  refine V_aload_n hC kX6_carriesLight_10 rfl ?_
  refine V_iconst hC (2) kX6_carriesLight_11 (by decide) ?_
  refine V_bipush hC (10) kX6_carriesLight_12 (by decide) ?_
  refine V_bipush hC (99) kX6_carriesLight_14 (by decide) ?_
  refine V_cV_fI hC (ct_number hWr (d := 2) 10 99 (by omega) (by omega) rfl (by rw [upr_at]; exact hT.nms 1)) mkX6_number lmX6_144 kX6_carriesLight_16 (Nat.le_of_ble_eq_true rfl) rfl rfl rfl (Nat.le_of_ble_eq_true rfl) ⟨(Nat.le_of_ble_eq_true rfl), (Nat.le_of_ble_eq_true rfl)⟩ ⟨rfl, rfl⟩ ⟨(Nat.le_of_ble_eq_true rfl), (Nat.le_of_ble_eq_true rfl)⟩ ?_
  refine V_nameI (fun q2 e_q2 => ?_)
  refine V_istore_n hC [some _, some _, some _, none, none, none, none] kX6_carriesLight_19 rfl (Nat.le_of_ble_eq_true rfl) ?_
  rw [upr_at, upr_ne _ _ (by omega), ← F_nms_s (a := 108) (d := 2) (lo := 10) (hi := 99) (i := 1) fm_108_1] at e_q2
  refine V_canon (upr sg mo (F_nms (sg (mo + 6)) 108 (sg mo) 2).2) (by rw [upr_at, upr_ne _ _ (by omega), upr_upr, ← F_nms_s (a := 108) (d := 2) (lo := 10) (hi := 99) (i := 1) (by decide)]) ?_
  refine V_aload_n hC kX6_carriesLight_20 rfl ?_
  refine V_iconst hC (1) kX6_carriesLight_21 (by decide) ?_
  refine V_iconst hC (0) kX6_carriesLight_22 (by decide) ?_
  refine V_iconst hC (2) kX6_carriesLight_23 (by decide) ?_
  refine V_cV_fI hC (ct_number hWr (d := 1) 0 2 (by omega) (by omega) rfl (by rw [upr_at]; exact hT.nms 2)) mkX6_number lmX6_144 kX6_carriesLight_24 (Nat.le_of_ble_eq_true rfl) rfl rfl rfl (Nat.le_of_ble_eq_true rfl) ⟨(Nat.le_of_ble_eq_true rfl), (Nat.le_of_ble_eq_true rfl)⟩ ⟨rfl, rfl⟩ ⟨(Nat.le_of_ble_eq_true rfl), (Nat.le_of_ble_eq_true rfl)⟩ ?_
  refine V_nameI (fun q3 e_q3 => ?_)
  refine V_istore_n hC [some _, some _, some _, some _, none, none, none] kX6_carriesLight_27 rfl (Nat.le_of_ble_eq_true rfl) ?_
  rw [upr_at, upr_ne _ _ (by omega), ← F_nms_s (a := 108) (d := 1) (lo := 0) (hi := 2) (i := 2) fm_108_2] at e_q3
  refine V_canon (upr sg mo (F_nms (sg (mo + 6)) 108 (sg mo) 3).2) (by rw [upr_at, upr_ne _ _ (by omega), upr_upr, ← F_nms_s (a := 108) (d := 1) (lo := 0) (hi := 2) (i := 2) (by decide)]) ?_
  refine V_aload_n hC kX6_carriesLight_28 rfl ?_
  refine V_iconst hC (2) kX6_carriesLight_29 (by decide) ?_
  refine V_iconst hC (1) kX6_carriesLight_30 (by decide) ?_
  refine V_bipush hC (20) kX6_carriesLight_31 (by decide) ?_
  refine V_cV_fI hC (ct_number hWr (d := 2) 1 20 (by omega) (by omega) rfl (by rw [upr_at]; exact hT.nms 3)) mkX6_number lmX6_144 kX6_carriesLight_33 (Nat.le_of_ble_eq_true rfl) rfl rfl rfl (Nat.le_of_ble_eq_true rfl) ⟨(Nat.le_of_ble_eq_true rfl), (Nat.le_of_ble_eq_true rfl)⟩ ⟨rfl, rfl⟩ ⟨(Nat.le_of_ble_eq_true rfl), (Nat.le_of_ble_eq_true rfl)⟩ ?_
  refine V_nameI (fun q4 e_q4 => ?_)
  refine V_istore hC [some _, some _, some _, some _, some _, none, none] kX6_carriesLight_36 rfl (Nat.le_of_ble_eq_true rfl) ?_
  rw [upr_at, upr_ne _ _ (by omega), ← F_nms_s (a := 108) (d := 2) (lo := 1) (hi := 20) (i := 3) fm_108_3] at e_q4
  refine V_canon (upr sg mo (F_nms (sg (mo + 6)) 108 (sg mo) 4).2) (by rw [upr_at, upr_ne _ _ (by omega), upr_upr, ← F_nms_s (a := 108) (d := 2) (lo := 1) (hi := 20) (i := 3) (by decide)]) ?_
  refine V_aload_n hC kX6_carriesLight_38 rfl ?_
  refine V_iconst hC (1) kX6_carriesLight_39 (by decide) ?_
  refine V_iconst hC (1) kX6_carriesLight_40 (by decide) ?_
  refine V_bipush hC (6) kX6_carriesLight_41 (by decide) ?_
  refine V_cV_fI hC (ct_number hWr (d := 1) 1 6 (by omega) (by omega) rfl (by rw [upr_at]; exact hT.nms 4)) mkX6_number lmX6_144 kX6_carriesLight_43 (Nat.le_of_ble_eq_true rfl) rfl rfl rfl (Nat.le_of_ble_eq_true rfl) ⟨(Nat.le_of_ble_eq_true rfl), (Nat.le_of_ble_eq_true rfl)⟩ ⟨rfl, rfl⟩ ⟨(Nat.le_of_ble_eq_true rfl), (Nat.le_of_ble_eq_true rfl)⟩ ?_
  refine V_nameI (fun q5 e_q5 => ?_)
  refine V_istore hC [some _, some _, some _, some _, some _, some _, none] kX6_carriesLight_46 rfl (Nat.le_of_ble_eq_true rfl) ?_
  rw [upr_at, upr_ne _ _ (by omega), ← F_nms_s (a := 108) (d := 1) (lo := 1) (hi := 6) (i := 4) fm_108_4] at e_q5
  refine V_canon (upr sg mo (F_nms (sg (mo + 6)) 108 (sg mo) 5).2) (by rw [upr_at, upr_ne _ _ (by omega), upr_upr, ← F_nms_s (a := 108) (d := 1) (lo := 1) (hi := 6) (i := 4) (by decide)]) ?_
  refine V_aload_n hC kX6_carriesLight_48 rfl ?_
  refine V_iconst hC (1) kX6_carriesLight_49 (by decide) ?_
  refine V_iconst hC (0) kX6_carriesLight_50 (by decide) ?_
  refine V_bipush hC (6) kX6_carriesLight_51 (by decide) ?_
  refine V_cV_fI hC (ct_number hWr (d := 1) 0 6 (by omega) (by omega) rfl (by rw [upr_at]; exact hT.nms 5)) mkX6_number lmX6_144 kX6_carriesLight_53 (Nat.le_of_ble_eq_true rfl) rfl rfl rfl (Nat.le_of_ble_eq_true rfl) ⟨(Nat.le_of_ble_eq_true rfl), (Nat.le_of_ble_eq_true rfl)⟩ ⟨rfl, rfl⟩ ⟨(Nat.le_of_ble_eq_true rfl), (Nat.le_of_ble_eq_true rfl)⟩ ?_
  refine V_nameI (fun q6 e_q6 => ?_)
  refine V_istore hC [some _, some _, some _, some _, some _, some _, some _] kX6_carriesLight_56 rfl (Nat.le_of_ble_eq_true rfl) ?_
  rw [upr_at, upr_ne _ _ (by omega), ← F_nms_s (a := 108) (d := 1) (lo := 0) (hi := 6) (i := 5) fm_108_5] at e_q6
  refine V_canon (upr sg mo (F_nms (sg (mo + 6)) 108 (sg mo) 6).2) (by rw [upr_at, upr_ne _ _ (by omega), upr_upr, ← F_nms_s (a := 108) (d := 1) (lo := 0) (hi := 6) (i := 5) (by decide)]) ?_
  refine V_aload_n hC kX6_carriesLight_58 rfl ?_
  have e1 : upr sg mo (F_nms (sg (mo + 6)) 108 (sg mo) 6).2 (mo + 1) = sg (mo + 1) := upr_ne _ _ (by omega)
  refine V_getI hC 6 10 lfX6_140 kX6_carriesLight_59 (Nat.le_of_ble_eq_true rfl) (Nat.le_of_ble_eq_true rfl) rfl ?_
  refine V_if_eq hC 88 kX6_carriesLight_62 (by decide) (fun h62 => ?_) (fun h62 => ?_)
  · refine V_iconst hC (0) kX6_carriesLight_88 (by decide) ?_
    refine V_ireti hC rfl kX6_carriesLight_89 ?_
    first
    | (have hno : ¬ P_obey (sg (mo + 6)) 108 (sg mo) := fun z => z.1 (by rw [rd_108]; rw [upr_at] at h62; exact h62)
       rw [R_carries, if_neg hno, G_carries, if_neg hno, rd_108, upr_same e1]
       exact ⟨by with_reducible rfl, by with_reducible rfl⟩)
    | (have hno : ¬ P_obey (sg (mo + 6)) 108 (sg mo) := fun z => z.2 (by rw [rd_108]; rw [upr_at] at h69; exact h69)
       rw [R_carries, if_neg hno, G_carries, if_neg hno, rd_108, upr_same e1]
       exact ⟨by with_reducible rfl, by with_reducible rfl⟩)
    | (have hyes : P_obey (sg (mo + 6)) 108 (sg mo) := ⟨fun z => h62 (by rw [upr_at, ← rd_108]; exact z), fun z => h69 (by rw [upr_at, ← rd_108]; exact z)⟩
       rw [R_carries, if_pos hyes, G_carries, if_pos hyes, obR_108, obG_108, rd_108, e1]
       replace e_q1 : q1 = F_vals (sg (mo + 6)) 108 (sg mo) 0 := e_q1
       subst e_q1
       replace e_q2 : q2 = F_vals (sg (mo + 6)) 108 (sg mo) 1 := e_q2
       subst e_q2
       replace e_q3 : q3 = F_vals (sg (mo + 6)) 108 (sg mo) 2 := e_q3
       subst e_q3
       replace e_q4 : q4 = F_vals (sg (mo + 6)) 108 (sg mo) 3 := e_q4
       subst e_q4
       replace e_q5 : q5 = F_vals (sg (mo + 6)) 108 (sg mo) 4 := e_q5
       subst e_q5
       replace e_q6 : q6 = F_vals (sg (mo + 6)) 108 (sg mo) 5 := e_q6
       subst e_q6
       exact ⟨by with_reducible rfl, by with_reducible rfl⟩)
  · refine V_aload_n hC kX6_carriesLight_65 rfl ?_
    refine V_getI hC 6 11 lfX6_148 kX6_carriesLight_66 (Nat.le_of_ble_eq_true rfl) (Nat.le_of_ble_eq_true rfl) rfl ?_
    refine V_if_eq hC 88 kX6_carriesLight_69 (by decide) (fun h69 => ?_) (fun h69 => ?_)
    · refine V_iconst hC (0) kX6_carriesLight_88 (by decide) ?_
      refine V_ireti hC rfl kX6_carriesLight_89 ?_
      first
      | (have hno : ¬ P_obey (sg (mo + 6)) 108 (sg mo) := fun z => z.1 (by rw [rd_108]; rw [upr_at] at h62; exact h62)
         rw [R_carries, if_neg hno, G_carries, if_neg hno, rd_108, upr_same e1]
         exact ⟨by with_reducible rfl, by with_reducible rfl⟩)
      | (have hno : ¬ P_obey (sg (mo + 6)) 108 (sg mo) := fun z => z.2 (by rw [rd_108]; rw [upr_at] at h69; exact h69)
         rw [R_carries, if_neg hno, G_carries, if_neg hno, rd_108, upr_same e1]
         exact ⟨by with_reducible rfl, by with_reducible rfl⟩)
      | (have hyes : P_obey (sg (mo + 6)) 108 (sg mo) := ⟨fun z => h62 (by rw [upr_at, ← rd_108]; exact z), fun z => h69 (by rw [upr_at, ← rd_108]; exact z)⟩
         rw [R_carries, if_pos hyes, G_carries, if_pos hyes, obR_108, obG_108, rd_108, e1]
         replace e_q1 : q1 = F_vals (sg (mo + 6)) 108 (sg mo) 0 := e_q1
         subst e_q1
         replace e_q2 : q2 = F_vals (sg (mo + 6)) 108 (sg mo) 1 := e_q2
         subst e_q2
         replace e_q3 : q3 = F_vals (sg (mo + 6)) 108 (sg mo) 2 := e_q3
         subst e_q3
         replace e_q4 : q4 = F_vals (sg (mo + 6)) 108 (sg mo) 3 := e_q4
         subst e_q4
         replace e_q5 : q5 = F_vals (sg (mo + 6)) 108 (sg mo) 4 := e_q5
         subst e_q5
         replace e_q6 : q6 = F_vals (sg (mo + 6)) 108 (sg mo) 5 := e_q6
         subst e_q6
         exact ⟨by with_reducible rfl, by with_reducible rfl⟩)
    · refine V_aload_n hC kX6_carriesLight_72 rfl ?_
      refine V_iload_n hC kX6_carriesLight_73 rfl ?_
      refine V_iload_n hC kX6_carriesLight_74 rfl ?_
      refine V_iload_n hC kX6_carriesLight_75 rfl ?_
      refine V_iload hC kX6_carriesLight_76 rfl ?_
      refine V_iload hC kX6_carriesLight_78 rfl ?_
      refine V_iload hC kX6_carriesLight_80 rfl ?_
      refine V_cV_fI hC (ct_actsLight hWr _ _ _ _ _ _ (by rw [e1]; exact hI.2.1.1)) mkX6_actsLight lmX6_151 kX6_carriesLight_82 (Nat.le_of_ble_eq_true rfl) rfl rfl rfl (Nat.le_of_ble_eq_true rfl) ⟨(Nat.le_of_ble_eq_true rfl), (Nat.le_of_ble_eq_true rfl)⟩ ⟨rfl, rfl⟩ ⟨(Nat.le_of_ble_eq_true rfl), (Nat.le_of_ble_eq_true rfl)⟩ ?_
      refine V_goto hC 89 kX6_carriesLight_85 (by decide) ?_
      refine V_ireti hC rfl kX6_carriesLight_89 ?_
      first
      | (have hno : ¬ P_obey (sg (mo + 6)) 108 (sg mo) := fun z => z.1 (by rw [rd_108]; rw [upr_at] at h62; exact h62)
         rw [R_carries, if_neg hno, G_carries, if_neg hno, rd_108, upr_same e1]
         exact ⟨by with_reducible rfl, by with_reducible rfl⟩)
      | (have hno : ¬ P_obey (sg (mo + 6)) 108 (sg mo) := fun z => z.2 (by rw [rd_108]; rw [upr_at] at h69; exact h69)
         rw [R_carries, if_neg hno, G_carries, if_neg hno, rd_108, upr_same e1]
         exact ⟨by with_reducible rfl, by with_reducible rfl⟩)
      | (have hyes : P_obey (sg (mo + 6)) 108 (sg mo) := ⟨fun z => h62 (by rw [upr_at, ← rd_108]; exact z), fun z => h69 (by rw [upr_at, ← rd_108]; exact z)⟩
         rw [R_carries, if_pos hyes, G_carries, if_pos hyes, obR_108, obG_108, rd_108, e1]
         replace e_q1 : q1 = F_vals (sg (mo + 6)) 108 (sg mo) 0 := e_q1
         subst e_q1
         replace e_q2 : q2 = F_vals (sg (mo + 6)) 108 (sg mo) 1 := e_q2
         subst e_q2
         replace e_q3 : q3 = F_vals (sg (mo + 6)) 108 (sg mo) 2 := e_q3
         subst e_q3
         replace e_q4 : q4 = F_vals (sg (mo + 6)) 108 (sg mo) 3 := e_q4
         subst e_q4
         replace e_q5 : q5 = F_vals (sg (mo + 6)) 108 (sg mo) 4 := e_q5
         subst e_q5
         replace e_q6 : q6 = F_vals (sg (mo + 6)) 108 (sg mo) 5 := e_q6
         subst e_q6
         exact ⟨by with_reducible rfl, by with_reducible rfl⟩)
