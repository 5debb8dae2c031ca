-- HOW ct_in fI
-- HOW ct_fails fI
-- HOW ct_of fI
-- HOW ct_ofBoat fI
-- HOW ct_layBoat fV
-- HOW ct_isLight fI
-- HOW ct_isBoat fI
-- HOW ct_isPlace fI
-- HOW ct_bright fI
-- HOW ct_worth fI
-- HOW ct_serves fI
-- HOW ct_best fI
-- HOW ct_sails fV
-- HOW ct_drops fV
-- HOW ct_wished fI
-- HOW ct_hands fV
-- HOW ct_wishes fV
-- HOW ct_finds fV
-- HOW ct_goesOn fV
-- HOW ct_goesTick fV
-- HOW ct_goesBy fI
-- HOW ct_putAside fV
-- HOW ct_takeBack fV
-- HOW ct_isLamp fI
-- HOW ct_addsLight fI
-- HOW ct_actsLight fI
-- HOW ct_addsBoat fI
-- HOW ct_actsBoat fI
-- HOW ct_actsSteer fI
-- HOW ct_canTalk fI
-- HOW ct_actsTalk fI
-- HOW ct_actsLean fI
-- HOW ct_actsDim fI
-- HOW ct_mostOf fI
-- HOW ct_isSetting fI
-- HOW ct_actsSet fI
-- HOW ct_actsTicks fI
-- HOW ct_boatsThat fI
-- HOW ct_servedBy fI
-- HOW ct_begins fV
-- HOW ct_tellsAbout fI
-- HOW ct_about fM
-- HOW ct_lightOf fM
-- HOW ct_boatOf fM
-- HOW ct_brightness fM
-- HOW ct_bestAt fM
-- HOW ct_setting fM
-- HOW ct_saves fV
-- HOW ct_light fM
-- HOW ct_boat fM
-- HOW ct_steer fM
-- HOW ct_talk fM
-- HOW ct_lean fM
-- HOW ct_dim fM
-- HOW ct_set fM
-- HOW ct_ticks fM
-- HOW ct_undo fM
-- HOW ct_save fM
-- HOW ct_restore fM
-- HOW ct_bringsBy fI
-- HOW ct_ifMargin fM
-- HOW ct_held fI
-- HOW ct_room fI
-- HOW ct_dark fI
-- HOW ct_turns fV
-- HOW ct_simulate fM
-- HOW ct_border fM
-- HOW ct_handedIn fM
-- HOW ct_bestMargin fM
-- HOW ct_thrown fI
-- HOW ct_sign fI
-- HOW ct_number fI
-- HOW ct_carriesLight fI
-- HOW ct_carries fI
/-! the reference: reading the text -/
def fm (a : Int32) (i : Nat) : Nat × Int32 × Int32 :=
  if a = 108 then (match i with | 0 => (3, 0, 199) | 1 => (2, 10, 99) | 2 => (1, 0, 2) | 3 => (2, 1, 20) | 4 => (1, 1, 6) | _ => (1, 0, 6))
  else if a = 98 then (match i with | 0 => (3, 0, 199) | _ => (2, 0, 12))
  else if a = 107 then (match i with | 0 => (1, 0, 7) | _ => (2, 1, 99))
  else if a = 118 then (match i with | 0 => (1, 0, 7) | _ => (2, 0, 12))
  else if a = 109 then (3, 0, 100)
  else (2, 1, 60)
def nfm (a : Int32) : Nat := if a = 108 then 6 else if a = 98 ∨ a = 107 ∨ a = 118 then 2 else 1
def F_nms (tx : Gs) (a : Int32) (c : Gs) : Nat → Int32 × Gs
  | 0 => (0, c)
  | i + 1 => F_num tx (fm a i).2.1 (fm a i).2.2 (fm a i).1 (F_nms tx a c i).2
theorem F_nms_s {tx : Gs} {a : Int32} {c : Gs} {i d : Nat} {lo hi : Int32} (h : fm a i = (d, lo, hi)) : F_nms tx a c (i + 1) = F_num tx lo hi d (F_nms tx a c i).2 := by
  rw [F_nms, h]
theorem TI.nms {tx : Gs} {a : Int32} {c : Gs} (h : TI c) : ∀ i, TI (F_nms tx a c i).2
  | 0 => h
  | i + 1 => TI.numN (TI.nms h i) _
abbrev cCmd (a : Int32) : Prop := a = 108 ∨ a = 98 ∨ a = 107 ∨ a = 118 ∨ a = 109 ∨ a = 116
def F_obR (g : Gs) (a : Int32) (v : Nat → Int32) : Int32 :=
  if a = 108 then (if cLight g (v 0) (v 1) (v 2) (v 3) (v 4) (v 5) then F_addLight g (v 0) (v 1) (v 2) (v 3) (v 4) (v 5) 4 - 1 else -1)
  else if a = 98 then (if cBoat g (v 0) (v 1 - 6) then g 5 else -1)
  else if a = 107 then (if cTalk g (v 0) (v 1) then 0 else -1)
  else if a = 118 then (if cSteer g (v 0) (v 1 - 6) then 0 else -1)
  else if a = 109 then (if cSet 0 (v 0) then 0 else -1)
  else (if inn (v 0) 1 60 then F_ticks g (tn (v 0)) 7 - g 7 else -1)
def F_obG (g : Gs) (a : Int32) (v : Nat → Int32) : Gs :=
  if a = 108 then (if cLight g (v 0) (v 1) (v 2) (v 3) (v 4) (v 5) then F_addLight g (v 0) (v 1) (v 2) (v 3) (v 4) (v 5) else g)
  else if a = 98 then (if cBoat g (v 0) (v 1 - 6) then F_addBoat g (v 0) (v 1 - 6) else g)
  else if a = 107 then (if cTalk g (v 0) (v 1) then pB g (v 0) 3 (v 1) else g)
  else if a = 118 then (if cSteer g (v 0) (v 1 - 6) then pB g (v 0) 1 (v 1 - 6) else g)
  else if a = 109 then (if cSet 0 (v 0) then upd g (tn 0) (v 0) else g)
  else (if inn (v 0) 1 60 then F_ticks g (tn (v 0)) else g)
def F_vals (tx : Gs) (a : Int32) (c : Gs) (i : Nat) : Int32 := (F_nms tx a c (i + 1)).1
def F_rd (tx : Gs) (a : Int32) (c : Gs) : Gs := (F_nms tx a c (nfm a)).2
abbrev P_obey (tx : Gs) (a : Int32) (c : Gs) : Prop := ¬ F_rd tx a c 10 = 0 ∧ ¬ F_rd tx a c 11 = 0
def R_carries (tx : Gs) (a : Int32) (c g : Gs) : Int32 := if P_obey tx a c then F_obR g a (F_vals tx a c) else 0
def G_carries (tx : Gs) (a : Int32) (c g : Gs) : Gs := if P_obey tx a c then F_obG g a (F_vals tx a c) else g
theorem upr_same {sg : Sg} {k : Nat} {r : Nat → Int32} (h : sg k = r) : upr sg k r = sg := by rw [← h, upr_self]
theorem rd_108 (tx c : Gs) : F_rd tx 108 c = (F_nms tx 108 c 6).2 := by rw [F_rd, show nfm 108 = 6 by decide +kernel]
theorem obR_108 (g : Gs) (v : Nat → Int32) : F_obR g 108 v = (if cLight g (v 0) (v 1) (v 2) (v 3) (v 4) (v 5) then F_addLight g (v 0) (v 1) (v 2) (v 3) (v 4) (v 5) 4 - 1 else -1) := if_pos rfl
theorem obG_108 (g : Gs) (v : Nat → Int32) : F_obG g 108 v = (if cLight g (v 0) (v 1) (v 2) (v 3) (v 4) (v 5) then F_addLight g (v 0) (v 1) (v 2) (v 3) (v 4) (v 5) else g) := if_pos rfl
theorem rd_98 (tx c : Gs) : F_rd tx 98 c = (F_nms tx 98 c 2).2 := by rw [F_rd, show nfm 98 = 2 by decide +kernel]
theorem rd_107 (tx c : Gs) : F_rd tx 107 c = (F_nms tx 107 c 2).2 := by rw [F_rd, show nfm 107 = 2 by decide +kernel]
theorem rd_118 (tx c : Gs) : F_rd tx 118 c = (F_nms tx 118 c 2).2 := by rw [F_rd, show nfm 118 = 2 by decide +kernel]
theorem rd_109 (tx c : Gs) : F_rd tx 109 c = (F_nms tx 109 c 1).2 := by rw [F_rd, show nfm 109 = 1 by decide +kernel]
theorem rd_116 (tx c : Gs) : F_rd tx 116 c = (F_nms tx 116 c 1).2 := by rw [F_rd, show nfm 116 = 1 by decide +kernel]
theorem obR_98 (g : Gs) (v : Nat → Int32) : F_obR g 98 v = (if cBoat g (v 0) (v 1 - 6) then g 5 else -1) := (if_neg (by decide)).trans (if_pos rfl)
theorem obG_98 (g : Gs) (v : Nat → Int32) : F_obG g 98 v = (if cBoat g (v 0) (v 1 - 6) then F_addBoat g (v 0) (v 1 - 6) else g) := (if_neg (by decide)).trans (if_pos rfl)
theorem obR_107 (g : Gs) (v : Nat → Int32) : F_obR g 107 v = (if cTalk g (v 0) (v 1) then 0 else -1) := (if_neg (by decide)).trans ((if_neg (by decide)).trans (if_pos rfl))
theorem obG_107 (g : Gs) (v : Nat → Int32) : F_obG g 107 v = (if cTalk g (v 0) (v 1) then pB g (v 0) 3 (v 1) else g) := (if_neg (by decide)).trans ((if_neg (by decide)).trans (if_pos rfl))
theorem obR_118 (g : Gs) (v : Nat → Int32) : F_obR g 118 v = (if cSteer g (v 0) (v 1 - 6) then 0 else -1) := (if_neg (by decide)).trans ((if_neg (by decide)).trans ((if_neg (by decide)).trans (if_pos rfl)))
theorem obG_118 (g : Gs) (v : Nat → Int32) : F_obG g 118 v = (if cSteer g (v 0) (v 1 - 6) then pB g (v 0) 1 (v 1 - 6) else g) := (if_neg (by decide)).trans ((if_neg (by decide)).trans ((if_neg (by decide)).trans (if_pos rfl)))
theorem obR_109 (g : Gs) (v : Nat → Int32) : F_obR g 109 v = (if cSet 0 (v 0) then 0 else -1) := (if_neg (by decide)).trans ((if_neg (by decide)).trans ((if_neg (by decide)).trans ((if_neg (by decide)).trans (if_pos rfl))))
theorem obG_109 (g : Gs) (v : Nat → Int32) : F_obG g 109 v = (if cSet 0 (v 0) then upd g (tn 0) (v 0) else g) := (if_neg (by decide)).trans ((if_neg (by decide)).trans ((if_neg (by decide)).trans ((if_neg (by decide)).trans (if_pos rfl))))
theorem obR_116 (g : Gs) (v : Nat → Int32) : F_obR g 116 v = (if inn (v 0) 1 60 then F_ticks g (tn (v 0)) 7 - g 7 else -1) := (if_neg (by decide)).trans ((if_neg (by decide)).trans ((if_neg (by decide)).trans ((if_neg (by decide)).trans (if_neg (by decide)))))
theorem obG_116 (g : Gs) (v : Nat → Int32) : F_obG g 116 v = (if inn (v 0) 1 60 then F_ticks g (tn (v 0)) else g) := (if_neg (by decide)).trans ((if_neg (by decide)).trans ((if_neg (by decide)).trans ((if_neg (by decide)).trans (if_neg (by decide)))))
theorem fm_108_0 : fm 108 0 = (3, 0, 199) := by decide +kernel
theorem fm_108_1 : fm 108 1 = (2, 10, 99) := by decide +kernel
theorem fm_108_2 : fm 108 2 = (1, 0, 2) := by decide +kernel
theorem fm_108_3 : fm 108 3 = (2, 1, 20) := by decide +kernel
theorem fm_108_4 : fm 108 4 = (1, 1, 6) := by decide +kernel
theorem fm_108_5 : fm 108 5 = (1, 0, 6) := by decide +kernel
theorem fm_98_0 : fm 98 0 = (3, 0, 199) := by decide +kernel
theorem fm_98_1 : fm 98 1 = (2, 0, 12) := by decide +kernel
theorem fm_107_0 : fm 107 0 = (1, 0, 7) := by decide +kernel
theorem fm_107_1 : fm 107 1 = (2, 1, 99) := by decide +kernel
theorem fm_118_0 : fm 118 0 = (1, 0, 7) := by decide +kernel
theorem fm_118_1 : fm 118 1 = (2, 0, 12) := by decide +kernel
theorem fm_109_0 : fm 109 0 = (3, 0, 100) := by decide +kernel
theorem fm_116_0 : fm 116 0 = (2, 1, 60) := by decide +kernel
def mtX6_carriesLight : Mt := (yX6_carriesLight, cX6_carriesLight, 7, (some .int), 3, 74, 0, 0)
theorem kX6_carriesLight_0 : Dk mtX6_carriesLight 0 (.aload_n 0) 1 1 := ⟨by decide +kernel, rfl⟩
theorem kX6_carriesLight_1 : Dk mtX6_carriesLight 1 (.iconst 3) 1 2 := ⟨by decide +kernel, rfl⟩
theorem kX6_carriesLight_2 : Dk mtX6_carriesLight 2 (.iconst 0) 1 3 := ⟨by decide +kernel, rfl⟩
theorem kX6_carriesLight_3 : Dk mtX6_carriesLight 3 (.sipush 199) 3 6 := ⟨by decide +kernel, rfl⟩
theorem kX6_carriesLight_6 : Dk mtX6_carriesLight 6 (.invokevirtual 144) 3 9 := ⟨by decide +kernel, rfl⟩
theorem kX6_carriesLight_9 : Dk mtX6_carriesLight 9 (.istore_n 1) 1 10 := ⟨by decide +kernel, rfl⟩
theorem kX6_carriesLight_10 : Dk mtX6_carriesLight 10 (.aload_n 0) 1 11 := ⟨by decide +kernel, rfl⟩
theorem kX6_carriesLight_11 : Dk mtX6_carriesLight 11 (.iconst 2) 1 12 := ⟨by decide +kernel, rfl⟩
theorem kX6_carriesLight_12 : Dk mtX6_carriesLight 12 (.bipush 10) 2 14 := ⟨by decide +kernel, rfl⟩
theorem kX6_carriesLight_14 : Dk mtX6_carriesLight 14 (.bipush 99) 2 16 := ⟨by decide +kernel, rfl⟩
theorem kX6_carriesLight_16 : Dk mtX6_carriesLight 16 (.invokevirtual 144) 3 19 := ⟨by decide +kernel, rfl⟩
theorem kX6_carriesLight_19 : Dk mtX6_carriesLight 19 (.istore_n 2) 1 20 := ⟨by decide +kernel, rfl⟩
theorem kX6_carriesLight_20 : Dk mtX6_carriesLight 20 (.aload_n 0) 1 21 := ⟨by decide +kernel, rfl⟩
theorem kX6_carriesLight_21 : Dk mtX6_carriesLight 21 (.iconst 1) 1 22 := ⟨by decide +kernel, rfl⟩
theorem kX6_carriesLight_22 : Dk mtX6_carriesLight 22 (.iconst 0) 1 23 := ⟨by decide +kernel, rfl⟩
theorem kX6_carriesLight_23 : Dk mtX6_carriesLight 23 (.iconst 2) 1 24 := ⟨by decide +kernel, rfl⟩
theorem kX6_carriesLight_24 : Dk mtX6_carriesLight 24 (.invokevirtual 144) 3 27 := ⟨by decide +kernel, rfl⟩
theorem kX6_carriesLight_27 : Dk mtX6_carriesLight 27 (.istore_n 3) 1 28 := ⟨by decide +kernel, rfl⟩
theorem kX6_carriesLight_28 : Dk mtX6_carriesLight 28 (.aload_n 0) 1 29 := ⟨by decide +kernel, rfl⟩
theorem kX6_carriesLight_29 : Dk mtX6_carriesLight 29 (.iconst 2) 1 30 := ⟨by decide +kernel, rfl⟩
theorem kX6_carriesLight_30 : Dk mtX6_carriesLight 30 (.iconst 1) 1 31 := ⟨by decide +kernel, rfl⟩
theorem kX6_carriesLight_31 : Dk mtX6_carriesLight 31 (.bipush 20) 2 33 := ⟨by decide +kernel, rfl⟩
theorem kX6_carriesLight_33 : Dk mtX6_carriesLight 33 (.invokevirtual 144) 3 36 := ⟨by decide +kernel, rfl⟩
theorem kX6_carriesLight_36 : Dk mtX6_carriesLight 36 (.istore 4) 2 38 := ⟨by decide +kernel, rfl⟩
theorem kX6_carriesLight_38 : Dk mtX6_carriesLight 38 (.aload_n 0) 1 39 := ⟨by decide +kernel, rfl⟩
theorem kX6_carriesLight_39 : Dk mtX6_carriesLight 39 (.iconst 1) 1 40 := ⟨by decide +kernel, rfl⟩
theorem kX6_carriesLight_40 : Dk mtX6_carriesLight 40 (.iconst 1) 1 41 := ⟨by decide +kernel, rfl⟩
theorem kX6_carriesLight_41 : Dk mtX6_carriesLight 41 (.bipush 6) 2 43 := ⟨by decide +kernel, rfl⟩
theorem kX6_carriesLight_43 : Dk mtX6_carriesLight 43 (.invokevirtual 144) 3 46 := ⟨by decide +kernel, rfl⟩
theorem kX6_carriesLight_46 : Dk mtX6_carriesLight 46 (.istore 5) 2 48 := ⟨by decide +kernel, rfl⟩
theorem kX6_carriesLight_48 : Dk mtX6_carriesLight 48 (.aload_n 0) 1 49 := ⟨by decide +kernel, rfl⟩
theorem kX6_carriesLight_49 : Dk mtX6_carriesLight 49 (.iconst 1) 1 50 := ⟨by decide +kernel, rfl⟩
theorem kX6_carriesLight_50 : Dk mtX6_carriesLight 50 (.iconst 0) 1 51 := ⟨by decide +kernel, rfl⟩
theorem kX6_carriesLight_51 : Dk mtX6_carriesLight 51 (.bipush 6) 2 53 := ⟨by decide +kernel, rfl⟩
theorem kX6_carriesLight_53 : Dk mtX6_carriesLight 53 (.invokevirtual 144) 3 56 := ⟨by decide +kernel, rfl⟩
theorem kX6_carriesLight_56 : Dk mtX6_carriesLight 56 (.istore 6) 2 58 := ⟨by decide +kernel, rfl⟩
theorem kX6_carriesLight_58 : Dk mtX6_carriesLight 58 (.aload_n 0) 1 59 := ⟨by decide +kernel, rfl⟩
theorem kX6_carriesLight_59 : Dk mtX6_carriesLight 59 (.getfield 140) 3 62 := ⟨by decide +kernel, rfl⟩
theorem kX6_carriesLight_62 : Dk mtX6_carriesLight 62 (.ifCond .eq 26) 3 65 := ⟨by decide +kernel, rfl⟩
theorem kX6_carriesLight_65 : Dk mtX6_carriesLight 65 (.aload_n 0) 1 66 := ⟨by decide +kernel, rfl⟩
theorem kX6_carriesLight_66 : Dk mtX6_carriesLight 66 (.getfield 148) 3 69 := ⟨by decide +kernel, rfl⟩
theorem kX6_carriesLight_69 : Dk mtX6_carriesLight 69 (.ifCond .eq 19) 3 72 := ⟨by decide +kernel, rfl⟩
theorem kX6_carriesLight_72 : Dk mtX6_carriesLight 72 (.aload_n 0) 1 73 := ⟨by decide +kernel, rfl⟩
theorem kX6_carriesLight_73 : Dk mtX6_carriesLight 73 (.iload_n 1) 1 74 := ⟨by decide +kernel, rfl⟩
theorem kX6_carriesLight_74 : Dk mtX6_carriesLight 74 (.iload_n 2) 1 75 := ⟨by decide +kernel, rfl⟩
theorem kX6_carriesLight_75 : Dk mtX6_carriesLight 75 (.iload_n 3) 1 76 := ⟨by decide +kernel, rfl⟩
theorem kX6_carriesLight_76 : Dk mtX6_carriesLight 76 (.iload 4) 2 78 := ⟨by decide +kernel, rfl⟩
theorem kX6_carriesLight_78 : Dk mtX6_carriesLight 78 (.iload 5) 2 80 := ⟨by decide +kernel, rfl⟩
theorem kX6_carriesLight_80 : Dk mtX6_carriesLight 80 (.iload 6) 2 82 := ⟨by decide +kernel, rfl⟩
theorem kX6_carriesLight_82 : Dk mtX6_carriesLight 82 (.invokevirtual 151) 3 85 := ⟨by decide +kernel, rfl⟩
theorem kX6_carriesLight_85 : Dk mtX6_carriesLight 85 (.goto 4) 3 88 := ⟨by decide +kernel, rfl⟩
theorem kX6_carriesLight_88 : Dk mtX6_carriesLight 88 (.iconst 0) 1 89 := ⟨by decide +kernel, rfl⟩
theorem kX6_carriesLight_89 : Dk mtX6_carriesLight 89 (.ireturn) 1 90 := ⟨by decide +kernel, rfl⟩
theorem lmX6_144 : LkM RX6 144 mtX6_number := Or.inl (by decide +kernel)
theorem mkX6_number : MkV mtX6_number 3 := ⟨List.mem_of_getElem? (i := 1109) (by decide +kernel), by decide +kernel, by decide +kernel, by decide +kernel, ⟨by decide +kernel, by decide +kernel, by decide +kernel⟩⟩
theorem lfX6_148 : LkF RX6 148 6 11 := Or.inl (by decide +kernel)
set_option maxHeartbeats 4000000 in
set_option maxRecDepth 100000 in
theorem ct_carriesLight {l : Launch} {w : Wd} {sg : Sg} (hWr : Wr w) {mo : Nat} (hT : TI (sg mo)) (hI : Inv (sg (mo + 1))) : M l mtX6_carriesLight w [vR (some (6, 0, mo))] sg (fI (R_carries (sg (mo + 6)) 108 (sg mo) (sg (mo + 1))) (upr (upr sg mo (F_rd (sg (mo + 6)) 108 (sg mo))) (mo + 1) (G_carries (sg (mo + 6)) 108 (sg mo) (sg (mo + 1))))) := by
  refine M_of [some (vR (some (6, 0, mo))), none, none, none, none, none, none] rfl (Nat.le_of_ble_eq_true rfl) (by decide +kernel) ?_
  intro p_ e_ s_ m_ args_ below_ meth_ c_ hC hO
  refine V_canon (upr sg mo (F_nms (sg (mo + 6)) 108 (sg mo) 0).2) (by rw [F_nms]; exact (upr_self _ _).symm) ?_
  refine V_aload_n hC kX6_carriesLight_0 rfl ?_
  refine V_iconst hC (3) kX6_carriesLight_1 (by decide) ?_
  refine V_iconst hC (0) kX6_carriesLight_2 (by decide) ?_
  refine V_sipush hC (199) kX6_carriesLight_3 (by decide) ?_
  refine V_cV_fI hC (ct_number hWr (d := 3) 0 199 (by omega) (by omega) rfl (by rw [upr_at]; exact hT.nms 0)) mkX6_number lmX6_144 kX6_carriesLight_6 (Nat.le_of_ble_eq_true rfl) rfl rfl rfl (Nat.le_of_ble_eq_true rfl) ⟨(Nat.le_of_ble_eq_true rfl), (Nat.le_of_ble_eq_true rfl)⟩ ⟨rfl, rfl⟩ ⟨(Nat.le_of_ble_eq_true rfl), (Nat.le_of_ble_eq_true rfl)⟩ ?_
  refine V_nameI (fun q1 e_q1 => ?_)
  refine V_istore_n hC [some _, some _, none, none, none, none, none] kX6_carriesLight_9 rfl (Nat.le_of_ble_eq_true rfl) ?_
  rw [upr_at, upr_ne _ _ (by omega), ← F_nms_s (a := 108) (d := 3) (lo := 0) (hi := 199) (i := 0) fm_108_0] at e_q1
  refine V_canon (upr sg mo (F_nms (sg (mo + 6)) 108 (sg mo) 1).2) (by rw [upr_at, upr_ne _ _ (by omega), upr_upr, ← F_nms_s (a := 108) (d := 3) (lo := 0) (hi := 199) (i := 0) (by decide)]) ?_
  refine V_aload_n hC kX6_carriesLight_10 rfl ?_
  refine V_iconst hC (2) kX6_carriesLight_11 (by decide) ?_
  refine V_bipush hC (10) kX6_carriesLight_12 (by decide) ?_
  refine V_bipush hC (99) kX6_carriesLight_14 (by decide) ?_
  refine V_cV_fI hC (ct_number hWr (d := 2) 10 99 (by omega) (by omega) rfl (by rw [upr_at]; exact hT.nms 1)) mkX6_number lmX6_144 kX6_carriesLight_16 (Nat.le_of_ble_eq_true rfl) rfl rfl rfl (Nat.le_of_ble_eq_true rfl) ⟨(Nat.le_of_ble_eq_true rfl), (Nat.le_of_ble_eq_true rfl)⟩ ⟨rfl, rfl⟩ ⟨(Nat.le_of_ble_eq_true rfl), (Nat.le_of_ble_eq_true rfl)⟩ ?_
  refine V_nameI (fun q2 e_q2 => ?_)
  refine V_istore_n hC [some _, some _, some _, none, none, none, none] kX6_carriesLight_19 rfl (Nat.le_of_ble_eq_true rfl) ?_
  rw [upr_at, upr_ne _ _ (by omega), ← F_nms_s (a := 108) (d := 2) (lo := 10) (hi := 99) (i := 1) fm_108_1] at e_q2
  refine V_canon (upr sg mo (F_nms (sg (mo + 6)) 108 (sg mo) 2).2) (by rw [upr_at, upr_ne _ _ (by omega), upr_upr, ← F_nms_s (a := 108) (d := 2) (lo := 10) (hi := 99) (i := 1) (by decide)]) ?_
  refine V_aload_n hC kX6_carriesLight_20 rfl ?_
  refine V_iconst hC (1) kX6_carriesLight_21 (by decide) ?_
  refine V_iconst hC (0) kX6_carriesLight_22 (by decide) ?_
  refine V_iconst hC (2) kX6_carriesLight_23 (by decide) ?_
  refine V_cV_fI hC (ct_number hWr (d := 1) 0 2 (by omega) (by omega) rfl (by rw [upr_at]; exact hT.nms 2)) mkX6_number lmX6_144 kX6_carriesLight_24 (Nat.le_of_ble_eq_true rfl) rfl rfl rfl (Nat.le_of_ble_eq_true rfl) ⟨(Nat.le_of_ble_eq_true rfl), (Nat.le_of_ble_eq_true rfl)⟩ ⟨rfl, rfl⟩ ⟨(Nat.le_of_ble_eq_true rfl), (Nat.le_of_ble_eq_true rfl)⟩ ?_
  refine V_nameI (fun q3 e_q3 => ?_)
  refine V_istore_n hC [some _, some _, some _, some _, none, none, none] kX6_carriesLight_27 rfl (Nat.le_of_ble_eq_true rfl) ?_
  rw [upr_at, upr_ne _ _ (by omega), ← F_nms_s (a := 108) (d := 1) (lo := 0) (hi := 2) (i := 2) fm_108_2] at e_q3
  refine V_canon (upr sg mo (F_nms (sg (mo + 6)) 108 (sg mo) 3).2) (by rw [upr_at, upr_ne _ _ (by omega), upr_upr, ← F_nms_s (a := 108) (d := 1) (lo := 0) (hi := 2) (i := 2) (by decide)]) ?_
  refine V_aload_n hC kX6_carriesLight_28 rfl ?_
  refine V_iconst hC (2) kX6_carriesLight_29 (by decide) ?_
  refine V_iconst hC (1) kX6_carriesLight_30 (by decide) ?_
  refine V_bipush hC (20) kX6_carriesLight_31 (by decide) ?_
  refine V_cV_fI hC (ct_number hWr (d := 2) 1 20 (by omega) (by omega) rfl (by rw [upr_at]; exact hT.nms 3)) mkX6_number lmX6_144 kX6_carriesLight_33 (Nat.le_of_ble_eq_true rfl) rfl rfl rfl (Nat.le_of_ble_eq_true rfl) ⟨(Nat.le_of_ble_eq_true rfl), (Nat.le_of_ble_eq_true rfl)⟩ ⟨rfl, rfl⟩ ⟨(Nat.le_of_ble_eq_true rfl), (Nat.le_of_ble_eq_true rfl)⟩ ?_
  refine V_nameI (fun q4 e_q4 => ?_)
  refine V_istore hC [some _, some _, some _, some _, some _, none, none] kX6_carriesLight_36 rfl (Nat.le_of_ble_eq_true rfl) ?_
  rw [upr_at, upr_ne _ _ (by omega), ← F_nms_s (a := 108) (d := 2) (lo := 1) (hi := 20) (i := 3) fm_108_3] at e_q4
  refine V_canon (upr sg mo (F_nms (sg (mo + 6)) 108 (sg mo) 4).2) (by rw [upr_at, upr_ne _ _ (by omega), upr_upr, ← F_nms_s (a := 108) (d := 2) (lo := 1) (hi := 20) (i := 3) (by decide)]) ?_
  refine V_aload_n hC kX6_carriesLight_38 rfl ?_
  refine V_iconst hC (1) kX6_carriesLight_39 (by decide) ?_
  refine V_iconst hC (1) kX6_carriesLight_40 (by decide) ?_
  refine V_bipush hC (6) kX6_carriesLight_41 (by decide) ?_
  refine V_cV_fI hC (ct_number hWr (d := 1) 1 6 (by omega) (by omega) rfl (by rw [upr_at]; exact hT.nms 4)) mkX6_number lmX6_144 kX6_carriesLight_43 (Nat.le_of_ble_eq_true rfl) rfl rfl rfl (Nat.le_of_ble_eq_true rfl) ⟨(Nat.le_of_ble_eq_true rfl), (Nat.le_of_ble_eq_true rfl)⟩ ⟨rfl, rfl⟩ ⟨(Nat.le_of_ble_eq_true rfl), (Nat.le_of_ble_eq_true rfl)⟩ ?_
  refine V_nameI (fun q5 e_q5 => ?_)
  refine V_istore hC [some _, some _, some _, some _, some _, some _, none] kX6_carriesLight_46 rfl (Nat.le_of_ble_eq_true rfl) ?_
  rw [upr_at, upr_ne _ _ (by omega), ← F_nms_s (a := 108) (d := 1) (lo := 1) (hi := 6) (i := 4) fm_108_4] at e_q5
  refine V_canon (upr sg mo (F_nms (sg (mo + 6)) 108 (sg mo) 5).2) (by rw [upr_at, upr_ne _ _ (by omega), upr_upr, ← F_nms_s (a := 108) (d := 1) (lo := 1) (hi := 6) (i := 4) (by decide)]) ?_
  refine V_aload_n hC kX6_carriesLight_48 rfl ?_
  refine V_iconst hC (1) kX6_carriesLight_49 (by decide) ?_
  refine V_iconst hC (0) kX6_carriesLight_50 (by decide) ?_
  refine V_bipush hC (6) kX6_carriesLight_51 (by decide) ?_
  refine V_cV_fI hC (ct_number hWr (d := 1) 0 6 (by omega) (by omega) rfl (by rw [upr_at]; exact hT.nms 5)) mkX6_number lmX6_144 kX6_carriesLight_53 (Nat.le_of_ble_eq_true rfl) rfl rfl rfl (Nat.le_of_ble_eq_true rfl) ⟨(Nat.le_of_ble_eq_true rfl), (Nat.le_of_ble_eq_true rfl)⟩ ⟨rfl, rfl⟩ ⟨(Nat.le_of_ble_eq_true rfl), (Nat.le_of_ble_eq_true rfl)⟩ ?_
  refine V_nameI (fun q6 e_q6 => ?_)
  refine V_istore hC [some _, some _, some _, some _, some _, some _, some _] kX6_carriesLight_56 rfl (Nat.le_of_ble_eq_true rfl) ?_
  rw [upr_at, upr_ne _ _ (by omega), ← F_nms_s (a := 108) (d := 1) (lo := 0) (hi := 6) (i := 5) fm_108_5] at e_q6
  refine V_canon (upr sg mo (F_nms (sg (mo + 6)) 108 (sg mo) 6).2) (by rw [upr_at, upr_ne _ _ (by omega), upr_upr, ← F_nms_s (a := 108) (d := 1) (lo := 0) (hi := 6) (i := 5) (by decide)]) ?_
  refine V_aload_n hC kX6_carriesLight_58 rfl ?_
  have e1 : upr sg mo (F_nms (sg (mo + 6)) 108 (sg mo) 6).2 (mo + 1) = sg (mo + 1) := upr_ne _ _ (by omega)
  refine V_getI hC 6 10 lfX6_140 kX6_carriesLight_59 (Nat.le_of_ble_eq_true rfl) (Nat.le_of_ble_eq_true rfl) rfl ?_
  refine V_if_eq hC 88 kX6_carriesLight_62 (by decide) (fun h62 => ?_) (fun h62 => ?_)
  · refine V_iconst hC (0) kX6_carriesLight_88 (by decide) ?_
    refine V_ireti hC rfl kX6_carriesLight_89 ?_
    first
    | (have hno : ¬ P_obey (sg (mo + 6)) 108 (sg mo) := fun z => z.1 (by rw [rd_108]; rw [upr_at] at h62; exact h62)
       rw [R_carries, if_neg hno, G_carries, if_neg hno, rd_108, upr_same e1]
       exact ⟨by with_reducible rfl, by with_reducible rfl⟩)
    | (have hno : ¬ P_obey (sg (mo + 6)) 108 (sg mo) := fun z => z.2 (by rw [rd_108]; rw [upr_at] at h69; exact h69)
       rw [R_carries, if_neg hno, G_carries, if_neg hno, rd_108, upr_same e1]
       exact ⟨by with_reducible rfl, by with_reducible rfl⟩)
    | (have hyes : P_obey (sg (mo + 6)) 108 (sg mo) := ⟨fun z => h62 (by rw [upr_at, ← rd_108]; exact z), fun z => h69 (by rw [upr_at, ← rd_108]; exact z)⟩
       rw [R_carries, if_pos hyes, G_carries, if_pos hyes, obR_108, obG_108, rd_108, e1]
       replace e_q1 : q1 = F_vals (sg (mo + 6)) 108 (sg mo) 0 := e_q1
       subst e_q1
       replace e_q2 : q2 = F_vals (sg (mo + 6)) 108 (sg mo) 1 := e_q2
       subst e_q2
       replace e_q3 : q3 = F_vals (sg (mo + 6)) 108 (sg mo) 2 := e_q3
       subst e_q3
       replace e_q4 : q4 = F_vals (sg (mo + 6)) 108 (sg mo) 3 := e_q4
       subst e_q4
       replace e_q5 : q5 = F_vals (sg (mo + 6)) 108 (sg mo) 4 := e_q5
       subst e_q5
       replace e_q6 : q6 = F_vals (sg (mo + 6)) 108 (sg mo) 5 := e_q6
       subst e_q6
       exact ⟨by with_reducible rfl, by with_reducible rfl⟩)
  · refine V_aload_n hC kX6_carriesLight_65 rfl ?_
    refine V_getI hC 6 11 lfX6_148 kX6_carriesLight_66 (Nat.le_of_ble_eq_true rfl) (Nat.le_of_ble_eq_true rfl) rfl ?_
    refine V_if_eq hC 88 kX6_carriesLight_69 (by decide) (fun h69 => ?_) (fun h69 => ?_)
    · refine V_iconst hC (0) kX6_carriesLight_88 (by decide) ?_
      refine V_ireti hC rfl kX6_carriesLight_89 ?_
      first
      | (have hno : ¬ P_obey (sg (mo + 6)) 108 (sg mo) := fun z => z.1 (by rw [rd_108]; rw [upr_at] at h62; exact h62)
         rw [R_carries, if_neg hno, G_carries, if_neg hno, rd_108, upr_same e1]
         exact ⟨by with_reducible rfl, by with_reducible rfl⟩)
      | (have hno : ¬ P_obey (sg (mo + 6)) 108 (sg mo) := fun z => z.2 (by rw [rd_108]; rw [upr_at] at h69; exact h69)
         rw [R_carries, if_neg hno, G_carries, if_neg hno, rd_108, upr_same e1]
         exact ⟨by with_reducible rfl, by with_reducible rfl⟩)
      | (have hyes : P_obey (sg (mo + 6)) 108 (sg mo) := ⟨fun z => h62 (by rw [upr_at, ← rd_108]; exact z), fun z => h69 (by rw [upr_at, ← rd_108]; exact z)⟩
         rw [R_carries, if_pos hyes, G_carries, if_pos hyes, obR_108, obG_108, rd_108, e1]
         replace e_q1 : q1 = F_vals (sg (mo + 6)) 108 (sg mo) 0 := e_q1
         subst e_q1
         replace e_q2 : q2 = F_vals (sg (mo + 6)) 108 (sg mo) 1 := e_q2
         subst e_q2
         replace e_q3 : q3 = F_vals (sg (mo + 6)) 108 (sg mo) 2 := e_q3
         subst e_q3
         replace e_q4 : q4 = F_vals (sg (mo + 6)) 108 (sg mo) 3 := e_q4
         subst e_q4
         replace e_q5 : q5 = F_vals (sg (mo + 6)) 108 (sg mo) 4 := e_q5
         subst e_q5
         replace e_q6 : q6 = F_vals (sg (mo + 6)) 108 (sg mo) 5 := e_q6
         subst e_q6
         exact ⟨by with_reducible rfl, by with_reducible rfl⟩)
    · refine V_aload_n hC kX6_carriesLight_72 rfl ?_
      refine V_iload_n hC kX6_carriesLight_73 rfl ?_
      refine V_iload_n hC kX6_carriesLight_74 rfl ?_
      refine V_iload_n hC kX6_carriesLight_75 rfl ?_
      refine V_iload hC kX6_carriesLight_76 rfl ?_
      refine V_iload hC kX6_carriesLight_78 rfl ?_
      refine V_iload hC kX6_carriesLight_80 rfl ?_
      refine V_cV_fI hC (ct_actsLight hWr _ _ _ _ _ _ (by rw [e1]; exact hI.2.1.1)) mkX6_actsLight lmX6_151 kX6_carriesLight_82 (Nat.le_of_ble_eq_true rfl) rfl rfl rfl (Nat.le_of_ble_eq_true rfl) ⟨(Nat.le_of_ble_eq_true rfl), (Nat.le_of_ble_eq_true rfl)⟩ ⟨rfl, rfl⟩ ⟨(Nat.le_of_ble_eq_true rfl), (Nat.le_of_ble_eq_true rfl)⟩ ?_
      refine V_goto hC 89 kX6_carriesLight_85 (by decide) ?_
      refine V_ireti hC rfl kX6_carriesLight_89 ?_
      first
      | (have hno : ¬ P_obey (sg (mo + 6)) 108 (sg mo) := fun z => z.1 (by rw [rd_108]; rw [upr_at] at h62; exact h62)
         rw [R_carries, if_neg hno, G_carries, if_neg hno, rd_108, upr_same e1]
         exact ⟨by with_reducible rfl, by with_reducible rfl⟩)
      | (have hno : ¬ P_obey (sg (mo + 6)) 108 (sg mo) := fun z => z.2 (by rw [rd_108]; rw [upr_at] at h69; exact h69)
         rw [R_carries, if_neg hno, G_carries, if_neg hno, rd_108, upr_same e1]
         exact ⟨by with_reducible rfl, by with_reducible rfl⟩)
      | (have hyes : P_obey (sg (mo + 6)) 108 (sg mo) := ⟨fun z => h62 (by rw [upr_at, ← rd_108]; exact z), fun z => h69 (by rw [upr_at, ← rd_108]; exact z)⟩
         rw [R_carries, if_pos hyes, G_carries, if_pos hyes, obR_108, obG_108, rd_108, e1]
         replace e_q1 : q1 = F_vals (sg (mo + 6)) 108 (sg mo) 0 := e_q1
         subst e_q1
         replace e_q2 : q2 = F_vals (sg (mo + 6)) 108 (sg mo) 1 := e_q2
         subst e_q2
         replace e_q3 : q3 = F_vals (sg (mo + 6)) 108 (sg mo) 2 := e_q3
         subst e_q3
         replace e_q4 : q4 = F_vals (sg (mo + 6)) 108 (sg mo) 3 := e_q4
         subst e_q4
         replace e_q5 : q5 = F_vals (sg (mo + 6)) 108 (sg mo) 4 := e_q5
         subst e_q5
         replace e_q6 : q6 = F_vals (sg (mo + 6)) 108 (sg mo) 5 := e_q6
         subst e_q6
         exact ⟨by with_reducible rfl, by with_reducible rfl⟩)
def mtX6_carries : Mt := (yX6_carries, cX6_carries, 4, (some .int), 9, 207, 0, 0)
theorem kX6_carries_0 : Dk mtX6_carries 0 (.iload_n 1) 1 1 := ⟨by decide +kernel, rfl⟩
theorem kX6_carries_1 : Dk mtX6_carries 1 (.bipush 98) 2 3 := ⟨by decide +kernel, rfl⟩
theorem kX6_carries_3 : Dk mtX6_carries 3 (.if_icmp .ne 15) 3 6 := ⟨by decide +kernel, rfl⟩
theorem kX6_carries_6 : Dk mtX6_carries 6 (.aload_n 0) 1 7 := ⟨by decide +kernel, rfl⟩
theorem kX6_carries_7 : Dk mtX6_carries 7 (.iconst 3) 1 8 := ⟨by decide +kernel, rfl⟩
theorem kX6_carries_8 : Dk mtX6_carries 8 (.iconst 0) 1 9 := ⟨by decide +kernel, rfl⟩
theorem kX6_carries_9 : Dk mtX6_carries 9 (.sipush 199) 3 12 := ⟨by decide +kernel, rfl⟩
theorem kX6_carries_12 : Dk mtX6_carries 12 (.invokevirtual 144) 3 15 := ⟨by decide +kernel, rfl⟩
theorem kX6_carries_15 : Dk mtX6_carries 15 (.goto 27) 3 18 := ⟨by decide +kernel, rfl⟩
theorem kX6_carries_18 : Dk mtX6_carries 18 (.iload_n 1) 1 19 := ⟨by decide +kernel, rfl⟩
theorem kX6_carries_19 : Dk mtX6_carries 19 (.bipush 107) 2 21 := ⟨by decide +kernel, rfl⟩
theorem kX6_carries_21 : Dk mtX6_carries 21 (.if_icmp .eq 9) 3 24 := ⟨by decide +kernel, rfl⟩
theorem kX6_carries_24 : Dk mtX6_carries 24 (.iload_n 1) 1 25 := ⟨by decide +kernel, rfl⟩
theorem kX6_carries_25 : Dk mtX6_carries 25 (.bipush 118) 2 27 := ⟨by decide +kernel, rfl⟩
theorem kX6_carries_27 : Dk mtX6_carries 27 (.if_icmp .ne 14) 3 30 := ⟨by decide +kernel, rfl⟩
theorem kX6_carries_30 : Dk mtX6_carries 30 (.aload_n 0) 1 31 := ⟨by decide +kernel, rfl⟩
theorem kX6_carries_31 : Dk mtX6_carries 31 (.iconst 1) 1 32 := ⟨by decide +kernel, rfl⟩
theorem kX6_carries_32 : Dk mtX6_carries 32 (.iconst 0) 1 33 := ⟨by decide +kernel, rfl⟩
theorem kX6_carries_33 : Dk mtX6_carries 33 (.bipush 7) 2 35 := ⟨by decide +kernel, rfl⟩
theorem kX6_carries_35 : Dk mtX6_carries 35 (.invokevirtual 144) 3 38 := ⟨by decide +kernel, rfl⟩
theorem kX6_carries_38 : Dk mtX6_carries 38 (.goto 4) 3 41 := ⟨by decide +kernel, rfl⟩
theorem kX6_carries_41 : Dk mtX6_carries 41 (.iconst 0) 1 42 := ⟨by decide +kernel, rfl⟩
theorem kX6_carries_42 : Dk mtX6_carries 42 (.istore_n 2) 1 43 := ⟨by decide +kernel, rfl⟩
theorem kX6_carries_43 : Dk mtX6_carries 43 (.iconst 0) 1 44 := ⟨by decide +kernel, rfl⟩
theorem kX6_carries_44 : Dk mtX6_carries 44 (.istore_n 3) 1 45 := ⟨by decide +kernel, rfl⟩
theorem kX6_carries_45 : Dk mtX6_carries 45 (.iload_n 1) 1 46 := ⟨by decide +kernel, rfl⟩
theorem kX6_carries_46 : Dk mtX6_carries 46 (.bipush 98) 2 48 := ⟨by decide +kernel, rfl⟩
theorem kX6_carries_48 : Dk mtX6_carries 48 (.if_icmp .eq 9) 3 51 := ⟨by decide +kernel, rfl⟩
theorem kX6_carries_51 : Dk mtX6_carries 51 (.iload_n 1) 1 52 := ⟨by decide +kernel, rfl⟩
theorem kX6_carries_52 : Dk mtX6_carries 52 (.bipush 118) 2 54 := ⟨by decide +kernel, rfl⟩
theorem kX6_carries_54 : Dk mtX6_carries 54 (.if_icmp .ne 15) 3 57 := ⟨by decide +kernel, rfl⟩
theorem kX6_carries_57 : Dk mtX6_carries 57 (.aload_n 0) 1 58 := ⟨by decide +kernel, rfl⟩
theorem kX6_carries_58 : Dk mtX6_carries 58 (.iconst 2) 1 59 := ⟨by decide +kernel, rfl⟩
theorem kX6_carries_59 : Dk mtX6_carries 59 (.iconst 0) 1 60 := ⟨by decide +kernel, rfl⟩
theorem kX6_carries_60 : Dk mtX6_carries 60 (.bipush 12) 2 62 := ⟨by decide +kernel, rfl⟩
theorem kX6_carries_62 : Dk mtX6_carries 62 (.invokevirtual 144) 3 65 := ⟨by decide +kernel, rfl⟩
theorem kX6_carries_65 : Dk mtX6_carries 65 (.istore_n 3) 1 66 := ⟨by decide +kernel, rfl⟩
theorem kX6_carries_66 : Dk mtX6_carries 66 (.goto 48) 3 69 := ⟨by decide +kernel, rfl⟩
theorem kX6_carries_69 : Dk mtX6_carries 69 (.iload_n 1) 1 70 := ⟨by decide +kernel, rfl⟩
theorem kX6_carries_70 : Dk mtX6_carries 70 (.bipush 107) 2 72 := ⟨by decide +kernel, rfl⟩
theorem kX6_carries_72 : Dk mtX6_carries 72 (.if_icmp .ne 15) 3 75 := ⟨by decide +kernel, rfl⟩
theorem kX6_carries_75 : Dk mtX6_carries 75 (.aload_n 0) 1 76 := ⟨by decide +kernel, rfl⟩
theorem kX6_carries_76 : Dk mtX6_carries 76 (.iconst 2) 1 77 := ⟨by decide +kernel, rfl⟩
theorem kX6_carries_77 : Dk mtX6_carries 77 (.iconst 1) 1 78 := ⟨by decide +kernel, rfl⟩
theorem kX6_carries_78 : Dk mtX6_carries 78 (.bipush 99) 2 80 := ⟨by decide +kernel, rfl⟩
theorem kX6_carries_80 : Dk mtX6_carries 80 (.invokevirtual 144) 3 83 := ⟨by decide +kernel, rfl⟩
theorem kX6_carries_83 : Dk mtX6_carries 83 (.istore_n 3) 1 84 := ⟨by decide +kernel, rfl⟩
theorem kX6_carries_84 : Dk mtX6_carries 84 (.goto 30) 3 87 := ⟨by decide +kernel, rfl⟩
theorem kX6_carries_87 : Dk mtX6_carries 87 (.iload_n 1) 1 88 := ⟨by decide +kernel, rfl⟩
theorem kX6_carries_88 : Dk mtX6_carries 88 (.bipush 109) 2 90 := ⟨by decide +kernel, rfl⟩
theorem kX6_carries_90 : Dk mtX6_carries 90 (.if_icmp .ne 15) 3 93 := ⟨by decide +kernel, rfl⟩
theorem kX6_carries_93 : Dk mtX6_carries 93 (.aload_n 0) 1 94 := ⟨by decide +kernel, rfl⟩
theorem kX6_carries_94 : Dk mtX6_carries 94 (.iconst 3) 1 95 := ⟨by decide +kernel, rfl⟩
theorem kX6_carries_95 : Dk mtX6_carries 95 (.iconst 0) 1 96 := ⟨by decide +kernel, rfl⟩
theorem kX6_carries_96 : Dk mtX6_carries 96 (.bipush 100) 2 98 := ⟨by decide +kernel, rfl⟩
theorem kX6_carries_98 : Dk mtX6_carries 98 (.invokevirtual 144) 3 101 := ⟨by decide +kernel, rfl⟩
theorem kX6_carries_101 : Dk mtX6_carries 101 (.istore_n 3) 1 102 := ⟨by decide +kernel, rfl⟩
theorem kX6_carries_102 : Dk mtX6_carries 102 (.goto 12) 3 105 := ⟨by decide +kernel, rfl⟩
theorem kX6_carries_105 : Dk mtX6_carries 105 (.aload_n 0) 1 106 := ⟨by decide +kernel, rfl⟩
theorem kX6_carries_106 : Dk mtX6_carries 106 (.iconst 2) 1 107 := ⟨by decide +kernel, rfl⟩
theorem kX6_carries_107 : Dk mtX6_carries 107 (.iconst 1) 1 108 := ⟨by decide +kernel, rfl⟩
theorem kX6_carries_108 : Dk mtX6_carries 108 (.bipush 60) 2 110 := ⟨by decide +kernel, rfl⟩
theorem kX6_carries_110 : Dk mtX6_carries 110 (.invokevirtual 144) 3 113 := ⟨by decide +kernel, rfl⟩
theorem kX6_carries_113 : Dk mtX6_carries 113 (.istore_n 3) 1 114 := ⟨by decide +kernel, rfl⟩
theorem kX6_carries_114 : Dk mtX6_carries 114 (.aload_n 0) 1 115 := ⟨by decide +kernel, rfl⟩
theorem kX6_carries_115 : Dk mtX6_carries 115 (.getfield 140) 3 118 := ⟨by decide +kernel, rfl⟩
theorem kX6_carries_118 : Dk mtX6_carries 118 (.ifCond .eq 10) 3 121 := ⟨by decide +kernel, rfl⟩
theorem kX6_carries_121 : Dk mtX6_carries 121 (.aload_n 0) 1 122 := ⟨by decide +kernel, rfl⟩
theorem kX6_carries_122 : Dk mtX6_carries 122 (.getfield 148) 3 125 := ⟨by decide +kernel, rfl⟩
theorem kX6_carries_125 : Dk mtX6_carries 125 (.ifCond .ne 5) 3 128 := ⟨by decide +kernel, rfl⟩
theorem kX6_carries_128 : Dk mtX6_carries 128 (.iconst 0) 1 129 := ⟨by decide +kernel, rfl⟩
theorem kX6_carries_129 : Dk mtX6_carries 129 (.ireturn) 1 130 := ⟨by decide +kernel, rfl⟩
theorem kX6_carries_130 : Dk mtX6_carries 130 (.iload_n 1) 1 131 := ⟨by decide +kernel, rfl⟩
theorem kX6_carries_131 : Dk mtX6_carries 131 (.lookupswitch 75 #[(98, 41), (107, 61), (109, 68), (118, 51)]) 41 172 := ⟨by decide +kernel, rfl⟩
theorem kX6_carries_172 : Dk mtX6_carries 172 (.aload_n 0) 1 173 := ⟨by decide +kernel, rfl⟩
theorem kX6_carries_173 : Dk mtX6_carries 173 (.iload_n 2) 1 174 := ⟨by decide +kernel, rfl⟩
theorem kX6_carries_174 : Dk mtX6_carries 174 (.iload_n 3) 1 175 := ⟨by decide +kernel, rfl⟩
theorem kX6_carries_175 : Dk mtX6_carries 175 (.bipush 6) 2 177 := ⟨by decide +kernel, rfl⟩
theorem kX6_carries_177 : Dk mtX6_carries 177 (.isub) 1 178 := ⟨by decide +kernel, rfl⟩
theorem kX6_carries_178 : Dk mtX6_carries 178 (.invokevirtual 154) 3 181 := ⟨by decide +kernel, rfl⟩
theorem kX6_carries_181 : Dk mtX6_carries 181 (.ireturn) 1 182 := ⟨by decide +kernel, rfl⟩
theorem kX6_carries_182 : Dk mtX6_carries 182 (.aload_n 0) 1 183 := ⟨by decide +kernel, rfl⟩
theorem kX6_carries_183 : Dk mtX6_carries 183 (.iload_n 2) 1 184 := ⟨by decide +kernel, rfl⟩
theorem kX6_carries_184 : Dk mtX6_carries 184 (.iload_n 3) 1 185 := ⟨by decide +kernel, rfl⟩
theorem kX6_carries_185 : Dk mtX6_carries 185 (.bipush 6) 2 187 := ⟨by decide +kernel, rfl⟩
theorem kX6_carries_187 : Dk mtX6_carries 187 (.isub) 1 188 := ⟨by decide +kernel, rfl⟩
theorem kX6_carries_188 : Dk mtX6_carries 188 (.invokevirtual 157) 3 191 := ⟨by decide +kernel, rfl⟩
theorem kX6_carries_191 : Dk mtX6_carries 191 (.ireturn) 1 192 := ⟨by decide +kernel, rfl⟩
theorem kX6_carries_192 : Dk mtX6_carries 192 (.aload_n 0) 1 193 := ⟨by decide +kernel, rfl⟩
theorem kX6_carries_193 : Dk mtX6_carries 193 (.iload_n 2) 1 194 := ⟨by decide +kernel, rfl⟩
theorem kX6_carries_194 : Dk mtX6_carries 194 (.iload_n 3) 1 195 := ⟨by decide +kernel, rfl⟩
theorem kX6_carries_195 : Dk mtX6_carries 195 (.invokevirtual 160) 3 198 := ⟨by decide +kernel, rfl⟩
theorem kX6_carries_198 : Dk mtX6_carries 198 (.ireturn) 1 199 := ⟨by decide +kernel, rfl⟩
theorem kX6_carries_199 : Dk mtX6_carries 199 (.aload_n 0) 1 200 := ⟨by decide +kernel, rfl⟩
theorem kX6_carries_200 : Dk mtX6_carries 200 (.iconst 0) 1 201 := ⟨by decide +kernel, rfl⟩
theorem kX6_carries_201 : Dk mtX6_carries 201 (.iload_n 3) 1 202 := ⟨by decide +kernel, rfl⟩
theorem kX6_carries_202 : Dk mtX6_carries 202 (.invokevirtual 163) 3 205 := ⟨by decide +kernel, rfl⟩
theorem kX6_carries_205 : Dk mtX6_carries 205 (.ireturn) 1 206 := ⟨by decide +kernel, rfl⟩
theorem kX6_carries_206 : Dk mtX6_carries 206 (.aload_n 0) 1 207 := ⟨by decide +kernel, rfl⟩
theorem kX6_carries_207 : Dk mtX6_carries 207 (.iload_n 3) 1 208 := ⟨by decide +kernel, rfl⟩
theorem kX6_carries_208 : Dk mtX6_carries 208 (.invokevirtual 166) 3 211 := ⟨by decide +kernel, rfl⟩
theorem kX6_carries_211 : Dk mtX6_carries 211 (.ireturn) 1 212 := ⟨by decide +kernel, rfl⟩
theorem lmX6_163 : LkM RX6 163 mtX6_actsSet := Or.inl (by decide +kernel)
theorem mkX6_actsSet : MkV mtX6_actsSet 2 := ⟨List.mem_of_getElem? (i := 1163) (by decide +kernel), by decide +kernel, by decide +kernel, by decide +kernel, ⟨by decide +kernel, by decide +kernel, by decide +kernel⟩⟩
set_option maxHeartbeats 4000000 in
set_option maxRecDepth 100000 in
theorem ct_carries {l : Launch} {w : Wd} {sg : Sg} (hWr : Wr w) {mo : Nat} {a : Int32} (ha : cCmd a) (ha2 : ¬ a = 108) (hT : TI (sg mo)) (hI : Inv (sg (mo + 1))) : M l mtX6_carries w [vR (some (6, 0, mo)), vI a] sg (fI (R_carries (sg (mo + 6)) a (sg mo) (sg (mo + 1))) (upr (upr sg mo (F_rd (sg (mo + 6)) a (sg mo))) (mo + 1) (G_carries (sg (mo + 6)) a (sg mo) (sg (mo + 1))))) := by
  refine M_of [some (vR (some (6, 0, mo))), some (vI a), none, none] rfl (Nat.le_of_ble_eq_true rfl) (by decide +kernel) ?_
  intro p_ e_ s_ m_ args_ below_ meth_ c_ hC hO
  obtain rfl | rfl | rfl | rfl | rfl : a = 98 ∨ a = 107 ∨ a = 118 ∨ a = 109 ∨ a = 116 := ha.resolve_left ha2
  · refine V_canon (upr sg mo (F_nms (sg (mo + 6)) 98 (sg mo) 0).2) (by rw [F_nms]; exact (upr_self _ _).symm) ?_
    refine V_iload_n hC kX6_carries_0 rfl ?_
    refine V_bipush hC (98) kX6_carries_1 (by decide) ?_
    refine V_icmp_ne hC 18 kX6_carries_3 (by decide) (fun h3 => absurd h3 (by decide)) (fun h3 => ?_)
    refine V_aload_n hC kX6_carries_6 rfl ?_
    refine V_iconst hC (3) kX6_carries_7 (by decide) ?_
    refine V_iconst hC (0) kX6_carries_8 (by decide) ?_
    refine V_sipush hC (199) kX6_carries_9 (by decide) ?_
    refine V_cV_fI hC (ct_number hWr (d := 3) 0 199 (by omega) (by omega) rfl (by rw [upr_at]; exact hT.nms 0)) mkX6_number lmX6_144 kX6_carries_12 (Nat.le_of_ble_eq_true rfl) rfl rfl rfl (Nat.le_of_ble_eq_true rfl) ⟨(Nat.le_of_ble_eq_true rfl), (Nat.le_of_ble_eq_true rfl)⟩ ⟨rfl, rfl⟩ ⟨(Nat.le_of_ble_eq_true rfl), (Nat.le_of_ble_eq_true rfl)⟩ ?_
    refine V_goto hC 42 kX6_carries_15 (by decide) ?_
    refine V_nameI (fun q1 e_q1 => ?_)
    refine V_istore_n hC [some _, some _, some _, none] kX6_carries_42 rfl (Nat.le_of_ble_eq_true rfl) ?_
    rw [upr_at, upr_ne _ _ (by omega), ← F_nms_s (a := 98) (d := 3) (lo := 0) (hi := 199) (i := 0) fm_98_0] at e_q1
    refine V_canon (upr sg mo (F_nms (sg (mo + 6)) 98 (sg mo) 1).2) (by rw [upr_at, upr_ne _ _ (by omega), upr_upr, ← F_nms_s (a := 98) (d := 3) (lo := 0) (hi := 199) (i := 0) (by decide)]) ?_
    refine V_iconst hC (0) kX6_carries_43 (by decide) ?_
    refine V_istore_n hC [some _, some _, some _, some _] kX6_carries_44 rfl (Nat.le_of_ble_eq_true rfl) ?_
    refine V_iload_n hC kX6_carries_45 rfl ?_
    refine V_bipush hC (98) kX6_carries_46 (by decide) ?_
    refine V_icmp_eq hC 57 kX6_carries_48 (by decide) (fun h48 => ?_) (fun h48 => absurd h48 (by decide))
    refine V_aload_n hC kX6_carries_57 rfl ?_
    refine V_iconst hC (2) kX6_carries_58 (by decide) ?_
    refine V_iconst hC (0) kX6_carries_59 (by decide) ?_
    refine V_bipush hC (12) kX6_carries_60 (by decide) ?_
    refine V_cV_fI hC (ct_number hWr (d := 2) 0 12 (by omega) (by omega) rfl (by rw [upr_at]; exact hT.nms 1)) mkX6_number lmX6_144 kX6_carries_62 (Nat.le_of_ble_eq_true rfl) rfl rfl rfl (Nat.le_of_ble_eq_true rfl) ⟨(Nat.le_of_ble_eq_true rfl), (Nat.le_of_ble_eq_true rfl)⟩ ⟨rfl, rfl⟩ ⟨(Nat.le_of_ble_eq_true rfl), (Nat.le_of_ble_eq_true rfl)⟩ ?_
    refine V_nameI (fun q2 e_q2 => ?_)
    refine V_istore_n hC [some _, some _, some _, some _] kX6_carries_65 rfl (Nat.le_of_ble_eq_true rfl) ?_
    rw [upr_at, upr_ne _ _ (by omega), ← F_nms_s (a := 98) (d := 2) (lo := 0) (hi := 12) (i := 1) fm_98_1] at e_q2
    refine V_canon (upr sg mo (F_nms (sg (mo + 6)) 98 (sg mo) 2).2) (by rw [upr_at, upr_ne _ _ (by omega), upr_upr, ← F_nms_s (a := 98) (d := 2) (lo := 0) (hi := 12) (i := 1) (by decide)]) ?_
    refine V_goto hC 114 kX6_carries_66 (by decide) ?_
    refine V_aload_n hC kX6_carries_114 rfl ?_
    have e1 : upr sg mo (F_nms (sg (mo + 6)) 98 (sg mo) 2).2 (mo + 1) = sg (mo + 1) := upr_ne _ _ (by omega)
    refine V_getI hC 6 10 lfX6_140 kX6_carries_115 (Nat.le_of_ble_eq_true rfl) (Nat.le_of_ble_eq_true rfl) rfl ?_
    refine V_if_eq hC 128 kX6_carries_118 (by decide) (fun h118 => ?_) (fun h118 => ?_)
    · refine V_iconst hC (0) kX6_carries_128 (by decide) ?_
      refine V_ireti hC rfl kX6_carries_129 ?_
      first
      | (have hno : ¬ P_obey (sg (mo + 6)) 98 (sg mo) := fun z => z.1 (by rw [rd_98]; rw [upr_at] at h118; exact h118)
         rw [R_carries, if_neg hno, G_carries, if_neg hno, rd_98, upr_same e1]
         exact ⟨by with_reducible rfl, by with_reducible rfl⟩)
      | (have hno : ¬ P_obey (sg (mo + 6)) 98 (sg mo) := fun z => z.2 (by rw [rd_98]; rw [upr_at] at h125; exact h125)
         rw [R_carries, if_neg hno, G_carries, if_neg hno, rd_98, upr_same e1]
         exact ⟨by with_reducible rfl, by with_reducible rfl⟩)
    · refine V_aload_n hC kX6_carries_121 rfl ?_
      refine V_getI hC 6 11 lfX6_148 kX6_carries_122 (Nat.le_of_ble_eq_true rfl) (Nat.le_of_ble_eq_true rfl) rfl ?_
      refine V_if_ne hC 130 kX6_carries_125 (by decide) (fun h125 => ?_) (fun h125 => ?_)
      · refine V_iload_n hC kX6_carries_130 rfl ?_
        refine V_lookup hC (41) 172 kX6_carries_131 rfl rfl (by decide) ?_
        refine V_aload_n hC kX6_carries_172 rfl ?_
        refine V_iload_n hC kX6_carries_173 rfl ?_
        refine V_iload_n hC kX6_carries_174 rfl ?_
        refine V_bipush hC (6) kX6_carries_175 (by decide) ?_
        refine V_isub hC kX6_carries_177 ?_
        refine V_cV_fI hC (ct_actsBoat hWr _ _ (by rw [e1]; exact hI.2.1.2)) mkX6_actsBoat lmX6_154 kX6_carries_178 (Nat.le_of_ble_eq_true rfl) rfl rfl rfl (Nat.le_of_ble_eq_true rfl) ⟨(Nat.le_of_ble_eq_true rfl), (Nat.le_of_ble_eq_true rfl)⟩ ⟨rfl, rfl⟩ ⟨(Nat.le_of_ble_eq_true rfl), (Nat.le_of_ble_eq_true rfl)⟩ ?_
        refine V_ireti hC rfl kX6_carries_181 ?_
        have hyes : P_obey (sg (mo + 6)) 98 (sg mo) := ⟨fun z => h118 (by rw [upr_at, ← rd_98]; exact z), fun z => h125 (by rw [upr_at, ← rd_98]; exact z)⟩
        rw [R_carries, if_pos hyes, G_carries, if_pos hyes, obR_98, obG_98, rd_98, e1]
        replace e_q1 : q1 = F_vals (sg (mo + 6)) 98 (sg mo) 0 := e_q1
        subst e_q1
        replace e_q2 : q2 = F_vals (sg (mo + 6)) 98 (sg mo) 1 := e_q2
        subst e_q2
        exact ⟨by with_reducible rfl, by with_reducible rfl⟩
      · refine V_iconst hC (0) kX6_carries_128 (by decide) ?_
        refine V_ireti hC rfl kX6_carries_129 ?_
        first
        | (have hno : ¬ P_obey (sg (mo + 6)) 98 (sg mo) := fun z => z.1 (by rw [rd_98]; rw [upr_at] at h118; exact h118)
           rw [R_carries, if_neg hno, G_carries, if_neg hno, rd_98, upr_same e1]
           exact ⟨by with_reducible rfl, by with_reducible rfl⟩)
        | (have hno : ¬ P_obey (sg (mo + 6)) 98 (sg mo) := fun z => z.2 (by rw [rd_98]; rw [upr_at] at h125; exact h125)
           rw [R_carries, if_neg hno, G_carries, if_neg hno, rd_98, upr_same e1]
           exact ⟨by with_reducible rfl, by with_reducible rfl⟩)
  · refine V_canon (upr sg mo (F_nms (sg (mo + 6)) 107 (sg mo) 0).2) (by rw [F_nms]; exact (upr_self _ _).symm) ?_
    refine V_iload_n hC kX6_carries_0 rfl ?_
    refine V_bipush hC (98) kX6_carries_1 (by decide) ?_
    refine V_icmp_ne hC 18 kX6_carries_3 (by decide) (fun h3 => ?_) (fun h3 => absurd h3 (by decide))
    refine V_iload_n hC kX6_carries_18 rfl ?_
    refine V_bipush hC (107) kX6_carries_19 (by decide) ?_
    refine V_icmp_eq hC 30 kX6_carries_21 (by decide) (fun h21 => ?_) (fun h21 => absurd h21 (by decide))
    refine V_aload_n hC kX6_carries_30 rfl ?_
    refine V_iconst hC (1) kX6_carries_31 (by decide) ?_
    refine V_iconst hC (0) kX6_carries_32 (by decide) ?_
    refine V_bipush hC (7) kX6_carries_33 (by decide) ?_
    refine V_cV_fI hC (ct_number hWr (d := 1) 0 7 (by omega) (by omega) rfl (by rw [upr_at]; exact hT.nms 0)) mkX6_number lmX6_144 kX6_carries_35 (Nat.le_of_ble_eq_true rfl) rfl rfl rfl (Nat.le_of_ble_eq_true rfl) ⟨(Nat.le_of_ble_eq_true rfl), (Nat.le_of_ble_eq_true rfl)⟩ ⟨rfl, rfl⟩ ⟨(Nat.le_of_ble_eq_true rfl), (Nat.le_of_ble_eq_true rfl)⟩ ?_
    refine V_goto hC 42 kX6_carries_38 (by decide) ?_
    refine V_nameI (fun q1 e_q1 => ?_)
    refine V_istore_n hC [some _, some _, some _, none] kX6_carries_42 rfl (Nat.le_of_ble_eq_true rfl) ?_
    rw [upr_at, upr_ne _ _ (by omega), ← F_nms_s (a := 107) (d := 1) (lo := 0) (hi := 7) (i := 0) fm_107_0] at e_q1
    refine V_canon (upr sg mo (F_nms (sg (mo + 6)) 107 (sg mo) 1).2) (by rw [upr_at, upr_ne _ _ (by omega), upr_upr, ← F_nms_s (a := 107) (d := 1) (lo := 0) (hi := 7) (i := 0) (by decide)]) ?_
    refine V_iconst hC (0) kX6_carries_43 (by decide) ?_
    refine V_istore_n hC [some _, some _, some _, some _] kX6_carries_44 rfl (Nat.le_of_ble_eq_true rfl) ?_
    refine V_iload_n hC kX6_carries_45 rfl ?_
    refine V_bipush hC (98) kX6_carries_46 (by decide) ?_
    refine V_icmp_eq hC 57 kX6_carries_48 (by decide) (fun h48 => absurd h48 (by decide)) (fun h48 => ?_)
    refine V_iload_n hC kX6_carries_51 rfl ?_
    refine V_bipush hC (118) kX6_carries_52 (by decide) ?_
    refine V_icmp_ne hC 69 kX6_carries_54 (by decide) (fun h54 => ?_) (fun h54 => absurd h54 (by decide))
    refine V_iload_n hC kX6_carries_69 rfl ?_
    refine V_bipush hC (107) kX6_carries_70 (by decide) ?_
    refine V_icmp_ne hC 87 kX6_carries_72 (by decide) (fun h72 => absurd h72 (by decide)) (fun h72 => ?_)
    refine V_aload_n hC kX6_carries_75 rfl ?_
    refine V_iconst hC (2) kX6_carries_76 (by decide) ?_
    refine V_iconst hC (1) kX6_carries_77 (by decide) ?_
    refine V_bipush hC (99) kX6_carries_78 (by decide) ?_
    refine V_cV_fI hC (ct_number hWr (d := 2) 1 99 (by omega) (by omega) rfl (by rw [upr_at]; exact hT.nms 1)) mkX6_number lmX6_144 kX6_carries_80 (Nat.le_of_ble_eq_true rfl) rfl rfl rfl (Nat.le_of_ble_eq_true rfl) ⟨(Nat.le_of_ble_eq_true rfl), (Nat.le_of_ble_eq_true rfl)⟩ ⟨rfl, rfl⟩ ⟨(Nat.le_of_ble_eq_true rfl), (Nat.le_of_ble_eq_true rfl)⟩ ?_
    refine V_nameI (fun q2 e_q2 => ?_)
    refine V_istore_n hC [some _, some _, some _, some _] kX6_carries_83 rfl (Nat.le_of_ble_eq_true rfl) ?_
    rw [upr_at, upr_ne _ _ (by omega), ← F_nms_s (a := 107) (d := 2) (lo := 1) (hi := 99) (i := 1) fm_107_1] at e_q2
    refine V_canon (upr sg mo (F_nms (sg (mo + 6)) 107 (sg mo) 2).2) (by rw [upr_at, upr_ne _ _ (by omega), upr_upr, ← F_nms_s (a := 107) (d := 2) (lo := 1) (hi := 99) (i := 1) (by decide)]) ?_
    refine V_goto hC 114 kX6_carries_84 (by decide) ?_
    refine V_aload_n hC kX6_carries_114 rfl ?_
    have e1 : upr sg mo (F_nms (sg (mo + 6)) 107 (sg mo) 2).2 (mo + 1) = sg (mo + 1) := upr_ne _ _ (by omega)
    refine V_getI hC 6 10 lfX6_140 kX6_carries_115 (Nat.le_of_ble_eq_true rfl) (Nat.le_of_ble_eq_true rfl) rfl ?_
    refine V_if_eq hC 128 kX6_carries_118 (by decide) (fun h118 => ?_) (fun h118 => ?_)
    · refine V_iconst hC (0) kX6_carries_128 (by decide) ?_
      refine V_ireti hC rfl kX6_carries_129 ?_
      first
      | (have hno : ¬ P_obey (sg (mo + 6)) 107 (sg mo) := fun z => z.1 (by rw [rd_107]; rw [upr_at] at h118; exact h118)
         rw [R_carries, if_neg hno, G_carries, if_neg hno, rd_107, upr_same e1]
         exact ⟨by with_reducible rfl, by with_reducible rfl⟩)
      | (have hno : ¬ P_obey (sg (mo + 6)) 107 (sg mo) := fun z => z.2 (by rw [rd_107]; rw [upr_at] at h125; exact h125)
         rw [R_carries, if_neg hno, G_carries, if_neg hno, rd_107, upr_same e1]
         exact ⟨by with_reducible rfl, by with_reducible rfl⟩)
    · refine V_aload_n hC kX6_carries_121 rfl ?_
      refine V_getI hC 6 11 lfX6_148 kX6_carries_122 (Nat.le_of_ble_eq_true rfl) (Nat.le_of_ble_eq_true rfl) rfl ?_
      refine V_if_ne hC 130 kX6_carries_125 (by decide) (fun h125 => ?_) (fun h125 => ?_)
      · refine V_iload_n hC kX6_carries_130 rfl ?_
        refine V_lookup hC (61) 192 kX6_carries_131 rfl rfl (by decide) ?_
        refine V_aload_n hC kX6_carries_192 rfl ?_
        refine V_iload_n hC kX6_carries_193 rfl ?_
        refine V_iload_n hC kX6_carries_194 rfl ?_
        refine V_cV_fI hC (ct_actsTalk hWr _ _ (by rw [e1]; exact hI.2.1.2)) mkX6_actsTalk lmX6_160 kX6_carries_195 (Nat.le_of_ble_eq_true rfl) rfl rfl rfl (Nat.le_of_ble_eq_true rfl) ⟨(Nat.le_of_ble_eq_true rfl), (Nat.le_of_ble_eq_true rfl)⟩ ⟨rfl, rfl⟩ ⟨(Nat.le_of_ble_eq_true rfl), (Nat.le_of_ble_eq_true rfl)⟩ ?_
        refine V_ireti hC rfl kX6_carries_198 ?_
        have hyes : P_obey (sg (mo + 6)) 107 (sg mo) := ⟨fun z => h118 (by rw [upr_at, ← rd_107]; exact z), fun z => h125 (by rw [upr_at, ← rd_107]; exact z)⟩
        rw [R_carries, if_pos hyes, G_carries, if_pos hyes, obR_107, obG_107, rd_107, e1]
        replace e_q1 : q1 = F_vals (sg (mo + 6)) 107 (sg mo) 0 := e_q1
        subst e_q1
        replace e_q2 : q2 = F_vals (sg (mo + 6)) 107 (sg mo) 1 := e_q2
        subst e_q2
        exact ⟨by with_reducible rfl, by with_reducible rfl⟩
      · refine V_iconst hC (0) kX6_carries_128 (by decide) ?_
        refine V_ireti hC rfl kX6_carries_129 ?_
        first
        | (have hno : ¬ P_obey (sg (mo + 6)) 107 (sg mo) := fun z => z.1 (by rw [rd_107]; rw [upr_at] at h118; exact h118)
           rw [R_carries, if_neg hno, G_carries, if_neg hno, rd_107, upr_same e1]
           exact ⟨by with_reducible rfl, by with_reducible rfl⟩)
        | (have hno : ¬ P_obey (sg (mo + 6)) 107 (sg mo) := fun z => z.2 (by rw [rd_107]; rw [upr_at] at h125; exact h125)
           rw [R_carries, if_neg hno, G_carries, if_neg hno, rd_107, upr_same e1]
           exact ⟨by with_reducible rfl, by with_reducible rfl⟩)
  · refine V_canon (upr sg mo (F_nms (sg (mo + 6)) 118 (sg mo) 0).2) (by rw [F_nms]; exact (upr_self _ _).symm) ?_
    refine V_iload_n hC kX6_carries_0 rfl ?_
    refine V_bipush hC (98) kX6_carries_1 (by decide) ?_
    refine V_icmp_ne hC 18 kX6_carries_3 (by decide) (fun h3 => ?_) (fun h3 => absurd h3 (by decide))
    refine V_iload_n hC kX6_carries_18 rfl ?_
    refine V_bipush hC (107) kX6_carries_19 (by decide) ?_
    refine V_icmp_eq hC 30 kX6_carries_21 (by decide) (fun h21 => absurd h21 (by decide)) (fun h21 => ?_)
    refine V_iload_n hC kX6_carries_24 rfl ?_
    refine V_bipush hC (118) kX6_carries_25 (by decide) ?_
    refine V_icmp_ne hC 41 kX6_carries_27 (by decide) (fun h27 => absurd h27 (by decide)) (fun h27 => ?_)
    refine V_aload_n hC kX6_carries_30 rfl ?_
    refine V_iconst hC (1) kX6_carries_31 (by decide) ?_
    refine V_iconst hC (0) kX6_carries_32 (by decide) ?_
    refine V_bipush hC (7) kX6_carries_33 (by decide) ?_
    refine V_cV_fI hC (ct_number hWr (d := 1) 0 7 (by omega) (by omega) rfl (by rw [upr_at]; exact hT.nms 0)) mkX6_number lmX6_144 kX6_carries_35 (Nat.le_of_ble_eq_true rfl) rfl rfl rfl (Nat.le_of_ble_eq_true rfl) ⟨(Nat.le_of_ble_eq_true rfl), (Nat.le_of_ble_eq_true rfl)⟩ ⟨rfl, rfl⟩ ⟨(Nat.le_of_ble_eq_true rfl), (Nat.le_of_ble_eq_true rfl)⟩ ?_
    refine V_goto hC 42 kX6_carries_38 (by decide) ?_
    refine V_nameI (fun q1 e_q1 => ?_)
    refine V_istore_n hC [some _, some _, some _, none] kX6_carries_42 rfl (Nat.le_of_ble_eq_true rfl) ?_
    rw [upr_at, upr_ne _ _ (by omega), ← F_nms_s (a := 118) (d := 1) (lo := 0) (hi := 7) (i := 0) fm_118_0] at e_q1
    refine V_canon (upr sg mo (F_nms (sg (mo + 6)) 118 (sg mo) 1).2) (by rw [upr_at, upr_ne _ _ (by omega), upr_upr, ← F_nms_s (a := 118) (d := 1) (lo := 0) (hi := 7) (i := 0) (by decide)]) ?_
    refine V_iconst hC (0) kX6_carries_43 (by decide) ?_
    refine V_istore_n hC [some _, some _, some _, some _] kX6_carries_44 rfl (Nat.le_of_ble_eq_true rfl) ?_
    refine V_iload_n hC kX6_carries_45 rfl ?_
    refine V_bipush hC (98) kX6_carries_46 (by decide) ?_
    refine V_icmp_eq hC 57 kX6_carries_48 (by decide) (fun h48 => absurd h48 (by decide)) (fun h48 => ?_)
    refine V_iload_n hC kX6_carries_51 rfl ?_
    refine V_bipush hC (118) kX6_carries_52 (by decide) ?_
    refine V_icmp_ne hC 69 kX6_carries_54 (by decide) (fun h54 => absurd h54 (by decide)) (fun h54 => ?_)
    refine V_aload_n hC kX6_carries_57 rfl ?_
    refine V_iconst hC (2) kX6_carries_58 (by decide) ?_
    refine V_iconst hC (0) kX6_carries_59 (by decide) ?_
    refine V_bipush hC (12) kX6_carries_60 (by decide) ?_
    refine V_cV_fI hC (ct_number hWr (d := 2) 0 12 (by omega) (by omega) rfl (by rw [upr_at]; exact hT.nms 1)) mkX6_number lmX6_144 kX6_carries_62 (Nat.le_of_ble_eq_true rfl) rfl rfl rfl (Nat.le_of_ble_eq_true rfl) ⟨(Nat.le_of_ble_eq_true rfl), (Nat.le_of_ble_eq_true rfl)⟩ ⟨rfl, rfl⟩ ⟨(Nat.le_of_ble_eq_true rfl), (Nat.le_of_ble_eq_true rfl)⟩ ?_
    refine V_nameI (fun q2 e_q2 => ?_)
    refine V_istore_n hC [some _, some _, some _, some _] kX6_carries_65 rfl (Nat.le_of_ble_eq_true rfl) ?_
    rw [upr_at, upr_ne _ _ (by omega), ← F_nms_s (a := 118) (d := 2) (lo := 0) (hi := 12) (i := 1) fm_118_1] at e_q2
    refine V_canon (upr sg mo (F_nms (sg (mo + 6)) 118 (sg mo) 2).2) (by rw [upr_at, upr_ne _ _ (by omega), upr_upr, ← F_nms_s (a := 118) (d := 2) (lo := 0) (hi := 12) (i := 1) (by decide)]) ?_
    refine V_goto hC 114 kX6_carries_66 (by decide) ?_
    refine V_aload_n hC kX6_carries_114 rfl ?_
    have e1 : upr sg mo (F_nms (sg (mo + 6)) 118 (sg mo) 2).2 (mo + 1) = sg (mo + 1) := upr_ne _ _ (by omega)
    refine V_getI hC 6 10 lfX6_140 kX6_carries_115 (Nat.le_of_ble_eq_true rfl) (Nat.le_of_ble_eq_true rfl) rfl ?_
    refine V_if_eq hC 128 kX6_carries_118 (by decide) (fun h118 => ?_) (fun h118 => ?_)
    · refine V_iconst hC (0) kX6_carries_128 (by decide) ?_
      refine V_ireti hC rfl kX6_carries_129 ?_
      first
      | (have hno : ¬ P_obey (sg (mo + 6)) 118 (sg mo) := fun z => z.1 (by rw [rd_118]; rw [upr_at] at h118; exact h118)
         rw [R_carries, if_neg hno, G_carries, if_neg hno, rd_118, upr_same e1]
         exact ⟨by with_reducible rfl, by with_reducible rfl⟩)
      | (have hno : ¬ P_obey (sg (mo + 6)) 118 (sg mo) := fun z => z.2 (by rw [rd_118]; rw [upr_at] at h125; exact h125)
         rw [R_carries, if_neg hno, G_carries, if_neg hno, rd_118, upr_same e1]
         exact ⟨by with_reducible rfl, by with_reducible rfl⟩)
    · refine V_aload_n hC kX6_carries_121 rfl ?_
      refine V_getI hC 6 11 lfX6_148 kX6_carries_122 (Nat.le_of_ble_eq_true rfl) (Nat.le_of_ble_eq_true rfl) rfl ?_
      refine V_if_ne hC 130 kX6_carries_125 (by decide) (fun h125 => ?_) (fun h125 => ?_)
      · refine V_iload_n hC kX6_carries_130 rfl ?_
        refine V_lookup hC (51) 182 kX6_carries_131 rfl rfl (by decide) ?_
        refine V_aload_n hC kX6_carries_182 rfl ?_
        refine V_iload_n hC kX6_carries_183 rfl ?_
        refine V_iload_n hC kX6_carries_184 rfl ?_
        refine V_bipush hC (6) kX6_carries_185 (by decide) ?_
        refine V_isub hC kX6_carries_187 ?_
        refine V_cV_fI hC (ct_actsSteer hWr _ _ (by rw [e1]; exact hI.2.1.2)) mkX6_actsSteer lmX6_157 kX6_carries_188 (Nat.le_of_ble_eq_true rfl) rfl rfl rfl (Nat.le_of_ble_eq_true rfl) ⟨(Nat.le_of_ble_eq_true rfl), (Nat.le_of_ble_eq_true rfl)⟩ ⟨rfl, rfl⟩ ⟨(Nat.le_of_ble_eq_true rfl), (Nat.le_of_ble_eq_true rfl)⟩ ?_
        refine V_ireti hC rfl kX6_carries_191 ?_
        have hyes : P_obey (sg (mo + 6)) 118 (sg mo) := ⟨fun z => h118 (by rw [upr_at, ← rd_118]; exact z), fun z => h125 (by rw [upr_at, ← rd_118]; exact z)⟩
        rw [R_carries, if_pos hyes, G_carries, if_pos hyes, obR_118, obG_118, rd_118, e1]
        replace e_q1 : q1 = F_vals (sg (mo + 6)) 118 (sg mo) 0 := e_q1
        subst e_q1
        replace e_q2 : q2 = F_vals (sg (mo + 6)) 118 (sg mo) 1 := e_q2
        subst e_q2
        exact ⟨by with_reducible rfl, by with_reducible rfl⟩
      · refine V_iconst hC (0) kX6_carries_128 (by decide) ?_
        refine V_ireti hC rfl kX6_carries_129 ?_
        first
        | (have hno : ¬ P_obey (sg (mo + 6)) 118 (sg mo) := fun z => z.1 (by rw [rd_118]; rw [upr_at] at h118; exact h118)
           rw [R_carries, if_neg hno, G_carries, if_neg hno, rd_118, upr_same e1]
           exact ⟨by with_reducible rfl, by with_reducible rfl⟩)
        | (have hno : ¬ P_obey (sg (mo + 6)) 118 (sg mo) := fun z => z.2 (by rw [rd_118]; rw [upr_at] at h125; exact h125)
           rw [R_carries, if_neg hno, G_carries, if_neg hno, rd_118, upr_same e1]
           exact ⟨by with_reducible rfl, by with_reducible rfl⟩)
  · refine V_canon (upr sg mo (F_nms (sg (mo + 6)) 109 (sg mo) 0).2) (by rw [F_nms]; exact (upr_self _ _).symm) ?_
    refine V_iload_n hC kX6_carries_0 rfl ?_
    refine V_bipush hC (98) kX6_carries_1 (by decide) ?_
    refine V_icmp_ne hC 18 kX6_carries_3 (by decide) (fun h3 => ?_) (fun h3 => absurd h3 (by decide))
    refine V_iload_n hC kX6_carries_18 rfl ?_
    refine V_bipush hC (107) kX6_carries_19 (by decide) ?_
    refine V_icmp_eq hC 30 kX6_carries_21 (by decide) (fun h21 => absurd h21 (by decide)) (fun h21 => ?_)
    refine V_iload_n hC kX6_carries_24 rfl ?_
    refine V_bipush hC (118) kX6_carries_25 (by decide) ?_
    refine V_icmp_ne hC 41 kX6_carries_27 (by decide) (fun h27 => ?_) (fun h27 => absurd h27 (by decide))
    refine V_iconst hC (0) kX6_carries_41 (by decide) ?_
    refine V_istore_n hC [some _, some _, some _, none] kX6_carries_42 rfl (Nat.le_of_ble_eq_true rfl) ?_
    refine V_iconst hC (0) kX6_carries_43 (by decide) ?_
    refine V_istore_n hC [some _, some _, some _, some _] kX6_carries_44 rfl (Nat.le_of_ble_eq_true rfl) ?_
    refine V_iload_n hC kX6_carries_45 rfl ?_
    refine V_bipush hC (98) kX6_carries_46 (by decide) ?_
    refine V_icmp_eq hC 57 kX6_carries_48 (by decide) (fun h48 => absurd h48 (by decide)) (fun h48 => ?_)
    refine V_iload_n hC kX6_carries_51 rfl ?_
    refine V_bipush hC (118) kX6_carries_52 (by decide) ?_
    refine V_icmp_ne hC 69 kX6_carries_54 (by decide) (fun h54 => ?_) (fun h54 => absurd h54 (by decide))
    refine V_iload_n hC kX6_carries_69 rfl ?_
    refine V_bipush hC (107) kX6_carries_70 (by decide) ?_
    refine V_icmp_ne hC 87 kX6_carries_72 (by decide) (fun h72 => ?_) (fun h72 => absurd h72 (by decide))
    refine V_iload_n hC kX6_carries_87 rfl ?_
    refine V_bipush hC (109) kX6_carries_88 (by decide) ?_
    refine V_icmp_ne hC 105 kX6_carries_90 (by decide) (fun h90 => absurd h90 (by decide)) (fun h90 => ?_)
    refine V_aload_n hC kX6_carries_93 rfl ?_
    refine V_iconst hC (3) kX6_carries_94 (by decide) ?_
    refine V_iconst hC (0) kX6_carries_95 (by decide) ?_
    refine V_bipush hC (100) kX6_carries_96 (by decide) ?_
    refine V_cV_fI hC (ct_number hWr (d := 3) 0 100 (by omega) (by omega) rfl (by rw [upr_at]; exact hT.nms 0)) mkX6_number lmX6_144 kX6_carries_98 (Nat.le_of_ble_eq_true rfl) rfl rfl rfl (Nat.le_of_ble_eq_true rfl) ⟨(Nat.le_of_ble_eq_true rfl), (Nat.le_of_ble_eq_true rfl)⟩ ⟨rfl, rfl⟩ ⟨(Nat.le_of_ble_eq_true rfl), (Nat.le_of_ble_eq_true rfl)⟩ ?_
    refine V_nameI (fun q2 e_q2 => ?_)
    refine V_istore_n hC [some _, some _, some _, some _] kX6_carries_101 rfl (Nat.le_of_ble_eq_true rfl) ?_
    rw [upr_at, upr_ne _ _ (by omega), ← F_nms_s (a := 109) (d := 3) (lo := 0) (hi := 100) (i := 0) fm_109_0] at e_q2
    refine V_canon (upr sg mo (F_nms (sg (mo + 6)) 109 (sg mo) 1).2) (by rw [upr_at, upr_ne _ _ (by omega), upr_upr, ← F_nms_s (a := 109) (d := 3) (lo := 0) (hi := 100) (i := 0) (by decide)]) ?_
    refine V_goto hC 114 kX6_carries_102 (by decide) ?_
    refine V_aload_n hC kX6_carries_114 rfl ?_
    have e1 : upr sg mo (F_nms (sg (mo + 6)) 109 (sg mo) 1).2 (mo + 1) = sg (mo + 1) := upr_ne _ _ (by omega)
    refine V_getI hC 6 10 lfX6_140 kX6_carries_115 (Nat.le_of_ble_eq_true rfl) (Nat.le_of_ble_eq_true rfl) rfl ?_
    refine V_if_eq hC 128 kX6_carries_118 (by decide) (fun h118 => ?_) (fun h118 => ?_)
    · refine V_iconst hC (0) kX6_carries_128 (by decide) ?_
      refine V_ireti hC rfl kX6_carries_129 ?_
      first
      | (have hno : ¬ P_obey (sg (mo + 6)) 109 (sg mo) := fun z => z.1 (by rw [rd_109]; rw [upr_at] at h118; exact h118)
         rw [R_carries, if_neg hno, G_carries, if_neg hno, rd_109, upr_same e1]
         exact ⟨by with_reducible rfl, by with_reducible rfl⟩)
      | (have hno : ¬ P_obey (sg (mo + 6)) 109 (sg mo) := fun z => z.2 (by rw [rd_109]; rw [upr_at] at h125; exact h125)
         rw [R_carries, if_neg hno, G_carries, if_neg hno, rd_109, upr_same e1]
         exact ⟨by with_reducible rfl, by with_reducible rfl⟩)
    · refine V_aload_n hC kX6_carries_121 rfl ?_
      refine V_getI hC 6 11 lfX6_148 kX6_carries_122 (Nat.le_of_ble_eq_true rfl) (Nat.le_of_ble_eq_true rfl) rfl ?_
      refine V_if_ne hC 130 kX6_carries_125 (by decide) (fun h125 => ?_) (fun h125 => ?_)
      · refine V_iload_n hC kX6_carries_130 rfl ?_
        refine V_lookup hC (68) 199 kX6_carries_131 rfl rfl (by decide) ?_
        refine V_aload_n hC kX6_carries_199 rfl ?_
        refine V_iconst hC (0) kX6_carries_200 (by decide) ?_
        refine V_iload_n hC kX6_carries_201 rfl ?_
        refine V_cV_fI hC (ct_actsSet hWr _ _) mkX6_actsSet lmX6_163 kX6_carries_202 (Nat.le_of_ble_eq_true rfl) rfl rfl rfl (Nat.le_of_ble_eq_true rfl) ⟨(Nat.le_of_ble_eq_true rfl), (Nat.le_of_ble_eq_true rfl)⟩ ⟨rfl, rfl⟩ ⟨(Nat.le_of_ble_eq_true rfl), (Nat.le_of_ble_eq_true rfl)⟩ ?_
        refine V_ireti hC rfl kX6_carries_205 ?_
        have hyes : P_obey (sg (mo + 6)) 109 (sg mo) := ⟨fun z => h118 (by rw [upr_at, ← rd_109]; exact z), fun z => h125 (by rw [upr_at, ← rd_109]; exact z)⟩
        rw [R_carries, if_pos hyes, G_carries, if_pos hyes, obR_109, obG_109, rd_109, e1]
        replace e_q2 : q2 = F_vals (sg (mo + 6)) 109 (sg mo) 0 := e_q2
        subst e_q2
        exact ⟨by with_reducible rfl, by with_reducible rfl⟩
      · refine V_iconst hC (0) kX6_carries_128 (by decide) ?_
        refine V_ireti hC rfl kX6_carries_129 ?_
        first
        | (have hno : ¬ P_obey (sg (mo + 6)) 109 (sg mo) := fun z => z.1 (by rw [rd_109]; rw [upr_at] at h118; exact h118)
           rw [R_carries, if_neg hno, G_carries, if_neg hno, rd_109, upr_same e1]
           exact ⟨by with_reducible rfl, by with_reducible rfl⟩)
        | (have hno : ¬ P_obey (sg (mo + 6)) 109 (sg mo) := fun z => z.2 (by rw [rd_109]; rw [upr_at] at h125; exact h125)
           rw [R_carries, if_neg hno, G_carries, if_neg hno, rd_109, upr_same e1]
           exact ⟨by with_reducible rfl, by with_reducible rfl⟩)
  · refine V_canon (upr sg mo (F_nms (sg (mo + 6)) 116 (sg mo) 0).2) (by rw [F_nms]; exact (upr_self _ _).symm) ?_
    refine V_iload_n hC kX6_carries_0 rfl ?_
    refine V_bipush hC (98) kX6_carries_1 (by decide) ?_
    refine V_icmp_ne hC 18 kX6_carries_3 (by decide) (fun h3 => ?_) (fun h3 => absurd h3 (by decide))
    refine V_iload_n hC kX6_carries_18 rfl ?_
    refine V_bipush hC (107) kX6_carries_19 (by decide) ?_
    refine V_icmp_eq hC 30 kX6_carries_21 (by decide) (fun h21 => absurd h21 (by decide)) (fun h21 => ?_)
    refine V_iload_n hC kX6_carries_24 rfl ?_
    refine V_bipush hC (118) kX6_carries_25 (by decide) ?_
    refine V_icmp_ne hC 41 kX6_carries_27 (by decide) (fun h27 => ?_) (fun h27 => absurd h27 (by decide))
    refine V_iconst hC (0) kX6_carries_41 (by decide) ?_
    refine V_istore_n hC [some _, some _, some _, none] kX6_carries_42 rfl (Nat.le_of_ble_eq_true rfl) ?_
    refine V_iconst hC (0) kX6_carries_43 (by decide) ?_
    refine V_istore_n hC [some _, some _, some _, some _] kX6_carries_44 rfl (Nat.le_of_ble_eq_true rfl) ?_
    refine V_iload_n hC kX6_carries_45 rfl ?_
    refine V_bipush hC (98) kX6_carries_46 (by decide) ?_
    refine V_icmp_eq hC 57 kX6_carries_48 (by decide) (fun h48 => absurd h48 (by decide)) (fun h48 => ?_)
    refine V_iload_n hC kX6_carries_51 rfl ?_
    refine V_bipush hC (118) kX6_carries_52 (by decide) ?_
    refine V_icmp_ne hC 69 kX6_carries_54 (by decide) (fun h54 => ?_) (fun h54 => absurd h54 (by decide))
    refine V_iload_n hC kX6_carries_69 rfl ?_
    refine V_bipush hC (107) kX6_carries_70 (by decide) ?_
    refine V_icmp_ne hC 87 kX6_carries_72 (by decide) (fun h72 => ?_) (fun h72 => absurd h72 (by decide))
    refine V_iload_n hC kX6_carries_87 rfl ?_
    refine V_bipush hC (109) kX6_carries_88 (by decide) ?_
    refine V_icmp_ne hC 105 kX6_carries_90 (by decide) (fun h90 => ?_) (fun h90 => absurd h90 (by decide))
    refine V_aload_n hC kX6_carries_105 rfl ?_
    refine V_iconst hC (2) kX6_carries_106 (by decide) ?_
    refine V_iconst hC (1) kX6_carries_107 (by decide) ?_
    refine V_bipush hC (60) kX6_carries_108 (by decide) ?_
    refine V_cV_fI hC (ct_number hWr (d := 2) 1 60 (by omega) (by omega) rfl (by rw [upr_at]; exact hT.nms 0)) mkX6_number lmX6_144 kX6_carries_110 (Nat.le_of_ble_eq_true rfl) rfl rfl rfl (Nat.le_of_ble_eq_true rfl) ⟨(Nat.le_of_ble_eq_true rfl), (Nat.le_of_ble_eq_true rfl)⟩ ⟨rfl, rfl⟩ ⟨(Nat.le_of_ble_eq_true rfl), (Nat.le_of_ble_eq_true rfl)⟩ ?_
    refine V_nameI (fun q2 e_q2 => ?_)
    refine V_istore_n hC [some _, some _, some _, some _] kX6_carries_113 rfl (Nat.le_of_ble_eq_true rfl) ?_
    rw [upr_at, upr_ne _ _ (by omega), ← F_nms_s (a := 116) (d := 2) (lo := 1) (hi := 60) (i := 0) fm_116_0] at e_q2
    refine V_canon (upr sg mo (F_nms (sg (mo + 6)) 116 (sg mo) 1).2) (by rw [upr_at, upr_ne _ _ (by omega), upr_upr, ← F_nms_s (a := 116) (d := 2) (lo := 1) (hi := 60) (i := 0) (by decide)]) ?_
    refine V_aload_n hC kX6_carries_114 rfl ?_
    have e1 : upr sg mo (F_nms (sg (mo + 6)) 116 (sg mo) 1).2 (mo + 1) = sg (mo + 1) := upr_ne _ _ (by omega)
    refine V_getI hC 6 10 lfX6_140 kX6_carries_115 (Nat.le_of_ble_eq_true rfl) (Nat.le_of_ble_eq_true rfl) rfl ?_
    refine V_if_eq hC 128 kX6_carries_118 (by decide) (fun h118 => ?_) (fun h118 => ?_)
    · refine V_iconst hC (0) kX6_carries_128 (by decide) ?_
      refine V_ireti hC rfl kX6_carries_129 ?_
      first
      | (have hno : ¬ P_obey (sg (mo + 6)) 116 (sg mo) := fun z => z.1 (by rw [rd_116]; rw [upr_at] at h118; exact h118)
         rw [R_carries, if_neg hno, G_carries, if_neg hno, rd_116, upr_same e1]
         exact ⟨by with_reducible rfl, by with_reducible rfl⟩)
      | (have hno : ¬ P_obey (sg (mo + 6)) 116 (sg mo) := fun z => z.2 (by rw [rd_116]; rw [upr_at] at h125; exact h125)
         rw [R_carries, if_neg hno, G_carries, if_neg hno, rd_116, upr_same e1]
         exact ⟨by with_reducible rfl, by with_reducible rfl⟩)
    · refine V_aload_n hC kX6_carries_121 rfl ?_
      refine V_getI hC 6 11 lfX6_148 kX6_carries_122 (Nat.le_of_ble_eq_true rfl) (Nat.le_of_ble_eq_true rfl) rfl ?_
      refine V_if_ne hC 130 kX6_carries_125 (by decide) (fun h125 => ?_) (fun h125 => ?_)
      · refine V_iload_n hC kX6_carries_130 rfl ?_
        refine V_lookup hC (75) 206 kX6_carries_131 rfl rfl (by decide) ?_
        refine V_aload_n hC kX6_carries_206 rfl ?_
        refine V_iload_n hC kX6_carries_207 rfl ?_
        refine V_cV_fI hC (ct_actsTicks hWr _ (by rw [e1]; exact hI)) mkX6_actsTicks lmX6_166 kX6_carries_208 (Nat.le_of_ble_eq_true rfl) rfl rfl rfl (Nat.le_of_ble_eq_true rfl) ⟨(Nat.le_of_ble_eq_true rfl), (Nat.le_of_ble_eq_true rfl)⟩ ⟨rfl, rfl⟩ ⟨(Nat.le_of_ble_eq_true rfl), (Nat.le_of_ble_eq_true rfl)⟩ ?_
        refine V_ireti hC rfl kX6_carries_211 ?_
        have hyes : P_obey (sg (mo + 6)) 116 (sg mo) := ⟨fun z => h118 (by rw [upr_at, ← rd_116]; exact z), fun z => h125 (by rw [upr_at, ← rd_116]; exact z)⟩
        rw [R_carries, if_pos hyes, G_carries, if_pos hyes, obR_116, obG_116, rd_116, e1]
        replace e_q2 : q2 = F_vals (sg (mo + 6)) 116 (sg mo) 0 := e_q2
        subst e_q2
        exact ⟨by with_reducible rfl, by with_reducible rfl⟩
      · refine V_iconst hC (0) kX6_carries_128 (by decide) ?_
        refine V_ireti hC rfl kX6_carries_129 ?_
        first
        | (have hno : ¬ P_obey (sg (mo + 6)) 116 (sg mo) := fun z => z.1 (by rw [rd_116]; rw [upr_at] at h118; exact h118)
           rw [R_carries, if_neg hno, G_carries, if_neg hno, rd_116, upr_same e1]
           exact ⟨by with_reducible rfl, by with_reducible rfl⟩)
        | (have hno : ¬ P_obey (sg (mo + 6)) 116 (sg mo) := fun z => z.2 (by rw [rd_116]; rw [upr_at] at h125; exact h125)
           rw [R_carries, if_neg hno, G_carries, if_neg hno, rd_116, upr_same e1]
           exact ⟨by with_reducible rfl, by with_reducible rfl⟩)
