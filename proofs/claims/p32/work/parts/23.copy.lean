-- HOW cl_isPlace fI
-- HOW cl_isSpeed fI
-- HOW cl_isStrength fI
-- HOW cl_isTickCount fI
-- HOW cl_isSetting fI
-- HOW cl_isSlot fI
-- HOW cl_isSettingValue fI
-- HOW cl_shown fI
-- HOW cl_lbegin fV
-- HOW cl_lcopy fV
-- HOW cl_bcopy fV
-- HOW cl_lnum fI
-- HOW cl_bnum fI
-- HOW cl_bright fI
-- HOW cl_worth fI
-- HOW cl_bitCount fI
-- HOW cl_servedCount fI
-- HOW cl_takesHandedOn fI
-- HOW cl_takesOthers fI
-- HOW cl_bbegin fV
-- HOW cl_move fV
-- HOW cl_wishFor fV
-- HOW cl_lightR fR
-- HOW cl_lightN fR
-- HOW cl_boatR fR
-- HOW cl_boatN fR
-- HOW cl_setR fI
-- HOW cl_lightAt fR
-- HOW cl_lightAtNo fR
-- HOW cl_boatAt fR
-- HOW cl_boatAtNo fR
-- HOW cl_settingOf fI
-- HOW cl_servedBoats fI
-- HOW cl_talkingBoats fI
-- HOW cl_numberOf fI
-- HOW cl_brightest fI
-- HOW cl_isDark fI
-- HOW cl_freePlaces fI
-- HOW cl_lightFault fI
-- HOW cl_boatFault fI
-- HOW cl_steerFault fI
-- HOW cl_dimFault fI
-- HOW cl_leanFault fI
-- HOW cl_talkFault fI
-- HOW cl_putSpeed rI
-- HOW cl_putTalk rI
-- HOW cl_putLeaning rI
-- HOW cl_putStrength rI
-- HOW cl_putSetting rI
-- HOW cl_addLight rI
-- HOW cl_addBoat rI
-- HOW cl_tryLight rI
-- HOW cl_tryBoat rI
-- HOW cl_trySteer rI
-- HOW cl_tryTalk rI
-- HOW cl_tryLean rI
-- HOW cl_tryDim rI
-- HOW cl_serve rV
-- HOW cl_lose rV
-- HOW cl_bestWish fI
-- HOW cl_seekKeeper rV
-- HOW cl_ask rV
-- HOW cl_sail rV
-- HOW cl_pass rV
-- HOW cl_reset rV
-- HOW cl_copyFrom rV
/-! the class: a coast anew, a coast copied -/
section FLATN
variable {p : Program} {l : Launch} {e : Env} {R : Room} {s : State} {m : MethodId} {args : Array Value} {below : List Frame} {meth : Method} {c : Code} {Q : State → Prop} {t : Mt} {w : Wd} {cs sl pc nx : Nat} {loc : List (Option VV)} {st : List VV} {sg : Sg}
theorem V_getsN (hC : Cx p R s m args meth c t w) {idx : Nat} (i : Nat) (hlk : Cond.fieldLinkNest (mY t).cls idx (scls i) (snam i) "[I" "LanternBoats" ∈ lw_tbl) (hd : Dk t pc (.getstatic idx) 3 nx) (hi : i < 3) (kk : V p l e R s m args below meth c t w Q cs sl nx loc (vR (some (20, slen i, 1000000 + i)) :: st) sg) : V p l e R s m args below meth c t w Q cs sl pc loc st sg := by
  intro H locs ls hP hS hL hO
  obtain ⟨hd, rfl⟩ := hd
  obtain ⟨hx, hb, hml, hown, hts, -, -, -, hW⟩ := hC
  exact va_getsN hx hb (hW.2.2.2 i hi).1 hS hown (va_Nw.use rfl (hW.2.1 _ (List.mem_filter.mpr ⟨hlk, rfl⟩))) (fun _ h => h) hd (kk H locs ls hP hS hL (okc (by unfold okv okr; simp only; exact ⟨i, hi, rfl, rfl⟩) hO))
end FLATN
def mtX1_reset : Mt := (yX1_reset, cX1_reset, 2, none, 0, 0, 0, 0)
theorem kX1_reset_0 : Dk mtX1_reset 0 (.iconst 0) 1 1 := ⟨by decide +kernel, rfl⟩
theorem kX1_reset_1 : Dk mtX1_reset 1 (.istore_n 1) 1 2 := ⟨by decide +kernel, rfl⟩
theorem kX1_reset_2 : Dk mtX1_reset 2 (.iload_n 1) 1 3 := ⟨by decide +kernel, rfl⟩
theorem kX1_reset_3 : Dk mtX1_reset 3 (.aload_n 0) 1 4 := ⟨by decide +kernel, rfl⟩
theorem kX1_reset_4 : Dk mtX1_reset 4 (.getfield 27) 3 7 := ⟨by decide +kernel, rfl⟩
theorem kX1_reset_7 : Dk mtX1_reset 7 (.arraylength) 1 8 := ⟨by decide +kernel, rfl⟩
theorem kX1_reset_8 : Dk mtX1_reset 8 (.if_icmp .ge 28) 3 11 := ⟨by decide +kernel, rfl⟩
theorem kX1_reset_11 : Dk mtX1_reset 11 (.iload_n 1) 1 12 := ⟨by decide +kernel, rfl⟩
theorem kX1_reset_12 : Dk mtX1_reset 12 (.getstatic 34) 3 15 := ⟨by decide +kernel, rfl⟩
theorem kX1_reset_15 : Dk mtX1_reset 15 (.arraylength) 1 16 := ⟨by decide +kernel, rfl⟩
theorem kX1_reset_16 : Dk mtX1_reset 16 (.if_icmp .ge 20) 3 19 := ⟨by decide +kernel, rfl⟩
theorem kX1_reset_19 : Dk mtX1_reset 19 (.aload_n 0) 1 20 := ⟨by decide +kernel, rfl⟩
theorem kX1_reset_20 : Dk mtX1_reset 20 (.getfield 27) 3 23 := ⟨by decide +kernel, rfl⟩
theorem kX1_reset_23 : Dk mtX1_reset 23 (.iload_n 1) 1 24 := ⟨by decide +kernel, rfl⟩
theorem kX1_reset_24 : Dk mtX1_reset 24 (.getstatic 34) 3 27 := ⟨by decide +kernel, rfl⟩
theorem kX1_reset_27 : Dk mtX1_reset 27 (.iload_n 1) 1 28 := ⟨by decide +kernel, rfl⟩
theorem kX1_reset_28 : Dk mtX1_reset 28 (.iaload) 1 29 := ⟨by decide +kernel, rfl⟩
theorem kX1_reset_29 : Dk mtX1_reset 29 (.iastore) 1 30 := ⟨by decide +kernel, rfl⟩
theorem kX1_reset_30 : Dk mtX1_reset 30 (.iinc 1 1) 3 33 := ⟨by decide +kernel, rfl⟩
theorem kX1_reset_33 : Dk mtX1_reset 33 (.goto (-31)) 3 36 := ⟨by decide +kernel, rfl⟩
theorem kX1_reset_36 : Dk mtX1_reset 36 (.aload_n 0) 1 37 := ⟨by decide +kernel, rfl⟩
theorem kX1_reset_37 : Dk mtX1_reset 37 (.iconst 0) 1 38 := ⟨by decide +kernel, rfl⟩
theorem kX1_reset_38 : Dk mtX1_reset 38 (.putfield 37) 3 41 := ⟨by decide +kernel, rfl⟩
theorem kX1_reset_41 : Dk mtX1_reset 41 (.aload_n 0) 1 42 := ⟨by decide +kernel, rfl⟩
theorem kX1_reset_42 : Dk mtX1_reset 42 (.iconst 0) 1 43 := ⟨by decide +kernel, rfl⟩
theorem kX1_reset_43 : Dk mtX1_reset 43 (.putfield 41) 3 46 := ⟨by decide +kernel, rfl⟩
theorem kX1_reset_46 : Dk mtX1_reset 46 (.aload_n 0) 1 47 := ⟨by decide +kernel, rfl⟩
theorem kX1_reset_47 : Dk mtX1_reset 47 (.iconst 0) 1 48 := ⟨by decide +kernel, rfl⟩
theorem kX1_reset_48 : Dk mtX1_reset 48 (.putfield 44) 3 51 := ⟨by decide +kernel, rfl⟩
theorem kX1_reset_51 : Dk mtX1_reset 51 (.aload_n 0) 1 52 := ⟨by decide +kernel, rfl⟩
theorem kX1_reset_52 : Dk mtX1_reset 52 (.iconst 0) 1 53 := ⟨by decide +kernel, rfl⟩
theorem kX1_reset_53 : Dk mtX1_reset 53 (.putfield 47) 3 56 := ⟨by decide +kernel, rfl⟩
theorem kX1_reset_56 : Dk mtX1_reset 56 (.aload_n 0) 1 57 := ⟨by decide +kernel, rfl⟩
theorem kX1_reset_57 : Dk mtX1_reset 57 (.iconst 0) 1 58 := ⟨by decide +kernel, rfl⟩
theorem kX1_reset_58 : Dk mtX1_reset 58 (.putfield 50) 3 61 := ⟨by decide +kernel, rfl⟩
theorem kX1_reset_61 : Dk mtX1_reset 61 (.aload_n 0) 1 62 := ⟨by decide +kernel, rfl⟩
theorem kX1_reset_62 : Dk mtX1_reset 62 (.iconst 0) 1 63 := ⟨by decide +kernel, rfl⟩
theorem kX1_reset_63 : Dk mtX1_reset 63 (.putfield 53) 3 66 := ⟨by decide +kernel, rfl⟩
theorem kX1_reset_66 : Dk mtX1_reset 66 (.aload_n 0) 1 67 := ⟨by decide +kernel, rfl⟩
theorem kX1_reset_67 : Dk mtX1_reset 67 (.iconst 0) 1 68 := ⟨by decide +kernel, rfl⟩
theorem kX1_reset_68 : Dk mtX1_reset 68 (.putfield 56) 3 71 := ⟨by decide +kernel, rfl⟩
theorem kX1_reset_71 : Dk mtX1_reset 71 (.aload_n 0) 1 72 := ⟨by decide +kernel, rfl⟩
theorem kX1_reset_72 : Dk mtX1_reset 72 (.iconst 0) 1 73 := ⟨by decide +kernel, rfl⟩
theorem kX1_reset_73 : Dk mtX1_reset 73 (.putfield 59) 3 76 := ⟨by decide +kernel, rfl⟩
theorem kX1_reset_76 : Dk mtX1_reset 76 (.return_) 1 77 := ⟨by decide +kernel, rfl⟩
set_option maxHeartbeats 4000000 in
set_option maxRecDepth 100000 in
theorem cl_reset {l : Launch} {w : Wd} {sg : Sg} (hWr : Wr w) {c : Nat} (g : Gs) (hb : Bt sg c) : M l mtX1_reset w [vR (some (1, 0, c))] sg (rV (fun sg2 => Rel sg2 c (F_begins g) ∧ Fr c sg sg2)) := by
  refine M_of [some (vR (some (1, 0, c))), none] rfl (Nat.le_of_ble_eq_true rfl) (by decide +kernel) ?_
  intro p_ e_ s_ m_ args_ below_ meth_ c_ hC hO
  refine V_iconst hC (0) kX1_reset_0 (by decide) ?_
  refine V_istore_n hC [some _, some _] kX1_reset_1 rfl (Nat.le_of_ble_eq_true rfl) ?_
  refine V_canon (upr sg (c + 17) (cpy (srow 2) (sg (c + 17)) 0)) (by rw [cpy_0, upr_self]) ?_
  refine V_loop 4 (fun i => [some (vR (some (1, 0, c))), some (vI (nI i))]) (fun i => upr sg (c + 17) (cpy (srow 2) (sg (c + 17)) i)) rfl rfl ?_ (fun i hi ihi => ?_)
  · refine V_iload_n hC kX1_reset_2 rfl ?_
    refine V_aload_n hC kX1_reset_3 rfl ?_
    refine V_getR hC hWr 1 2 lfX1_27 kX1_reset_4 (Nat.le_of_ble_eq_true rfl) (Nat.le_of_ble_eq_true rfl) rfl ?_
    refine V_alen hC _ kX1_reset_7 ⟨(Nat.le_of_ble_eq_true rfl), (Nat.le_of_ble_eq_true rfl)⟩ rfl ?_
    refine V_icmp_ge hC 36 kX1_reset_8 (by decide) (fun h8 => ?_) (fun h8 => absurd h8 (not_not_intro (nI_lit rfl)))
    refine V_aload_n hC kX1_reset_36 rfl ?_
    refine V_iconst hC (0) kX1_reset_37 (by decide) ?_
    refine V_putI hC 1 3 lfX1_37 kX1_reset_38 (Nat.le_of_ble_eq_true rfl) (Nat.le_of_ble_eq_true rfl) rfl rfl ⟨rfl, rfl⟩ ?_
    refine V_aload_n hC kX1_reset_41 rfl ?_
    refine V_iconst hC (0) kX1_reset_42 (by decide) ?_
    refine V_putI hC 1 4 lfX1_41 kX1_reset_43 (Nat.le_of_ble_eq_true rfl) (Nat.le_of_ble_eq_true rfl) rfl rfl ⟨rfl, rfl⟩ ?_
    refine V_aload_n hC kX1_reset_46 rfl ?_
    refine V_iconst hC (0) kX1_reset_47 (by decide) ?_
    refine V_putI hC 1 5 lfX1_44 kX1_reset_48 (Nat.le_of_ble_eq_true rfl) (Nat.le_of_ble_eq_true rfl) rfl rfl ⟨rfl, rfl⟩ ?_
    refine V_aload_n hC kX1_reset_51 rfl ?_
    refine V_iconst hC (0) kX1_reset_52 (by decide) ?_
    refine V_putI hC 1 6 lfX1_47 kX1_reset_53 (Nat.le_of_ble_eq_true rfl) (Nat.le_of_ble_eq_true rfl) rfl rfl ⟨rfl, rfl⟩ ?_
    refine V_aload_n hC kX1_reset_56 rfl ?_
    refine V_iconst hC (0) kX1_reset_57 (by decide) ?_
    refine V_putI hC 1 7 lfX1_50 kX1_reset_58 (Nat.le_of_ble_eq_true rfl) (Nat.le_of_ble_eq_true rfl) rfl rfl ⟨rfl, rfl⟩ ?_
    refine V_aload_n hC kX1_reset_61 rfl ?_
    refine V_iconst hC (0) kX1_reset_62 (by decide) ?_
    refine V_putI hC 1 8 lfX1_53 kX1_reset_63 (Nat.le_of_ble_eq_true rfl) (Nat.le_of_ble_eq_true rfl) rfl rfl ⟨rfl, rfl⟩ ?_
    refine V_aload_n hC kX1_reset_66 rfl ?_
    refine V_iconst hC (0) kX1_reset_67 (by decide) ?_
    refine V_putI hC 1 9 lfX1_56 kX1_reset_68 (Nat.le_of_ble_eq_true rfl) (Nat.le_of_ble_eq_true rfl) rfl rfl ⟨rfl, rfl⟩ ?_
    refine V_aload_n hC kX1_reset_71 rfl ?_
    refine V_iconst hC (0) kX1_reset_72 (by decide) ?_
    refine V_putI hC 1 10 lfX1_59 kX1_reset_73 (Nat.le_of_ble_eq_true rfl) (Nat.le_of_ble_eq_true rfl) rfl rfl ⟨rfl, rfl⟩ ?_
    refine V_vret hC rfl kX1_reset_76 ?_
    have hF : Fr c sg (upr sg (c + 17) (cpy (srow 2) (sg (c + 17)) 4)) := (Fr.rf c sg).upr _ (by omega)
    refine ⟨by with_reducible rfl, Rel.begins g (fun j h1 h2 => ?_) (fun j hj => ?_) (fun b hb' => ?_), (((((((hF.ups _ _ ?_).ups _ _ ?_).ups _ _ ?_).ups _ _ ?_).ups _ _ ?_).ups _ _ ?_).ups _ _ ?_).ups _ _ ?_⟩
    · obtain rfl | rfl | rfl | rfl | rfl | rfl | rfl | rfl : j = 3 ∨ j = 4 ∨ j = 5 ∨ j = 6 ∨ j = 7 ∨ j = 8 ∨ j = 9 ∨ j = 10 := by omega
      all_goals repeat (first | rw [ups_v, if_pos ⟨rfl, rfl⟩] | rw [ups_v, if_neg (by omega)])
    · repeat rw [ups_ne _ _ _ (by omega)]
      rw [upr_at]
      exact if_pos hj
    · repeat rw [ups_ne _ _ _ (by omega)]
      rw [upr_ne _ _ (by omega)]
      exact hb b hb'
    all_goals omega
  · refine V_iload_n hC kX1_reset_2 rfl ?_
    refine V_aload_n hC kX1_reset_3 rfl ?_
    refine V_getR hC hWr 1 2 lfX1_27 kX1_reset_4 (Nat.le_of_ble_eq_true rfl) (Nat.le_of_ble_eq_true rfl) rfl ?_
    refine V_alen hC _ kX1_reset_7 ⟨(Nat.le_of_ble_eq_true rfl), (Nat.le_of_ble_eq_true rfl)⟩ rfl ?_
    refine V_icmp_ge hC 36 kX1_reset_8 (by decide) (fun h8 => absurd h8 (by exact nI_ge (b := 4) hi (by decide))) (fun h8 => ?_)
    refine V_iload_n hC kX1_reset_11 rfl ?_
    refine V_getsN hC 2 (by decide +kernel) kX1_reset_12 (Nat.le_of_ble_eq_true rfl) ?_
    refine V_slen hC _ kX1_reset_15 rfl ?_
    refine V_icmp_ge hC 36 kX1_reset_16 (by decide) (fun h16 => absurd h16 (by exact nI_ge (b := 4) hi (by decide))) (fun h16 => ?_)
    refine V_aload_n hC kX1_reset_19 rfl ?_
    refine V_getR hC hWr 1 2 lfX1_27 kX1_reset_20 (Nat.le_of_ble_eq_true rfl) (Nat.le_of_ble_eq_true rfl) rfl ?_
    refine V_iload_n hC kX1_reset_23 rfl ?_
    refine V_getsN hC 2 (by decide +kernel) kX1_reset_24 (Nat.le_of_ble_eq_true rfl) ?_
    refine V_iload_n hC kX1_reset_27 rfl ?_
    refine V_sald hC i (nI_clamp (by omega)) kX1_reset_28 (vp_in_nI hi (by decide)) ?_
    refine V_iast hC i (nI_clamp (by omega)) kX1_reset_29 (vp_in_nI hi (by decide)) ?_
    refine V_iinc hC (_ + 1) [some _, some _] kX1_reset_30 rfl rfl rfl (Nat.le_of_ble_eq_true rfl) ?_
    refine V_goto hC 2 kX1_reset_33 (by decide) ?_
    refine V_eq (by rw [nI_succ]) ?_ ihi
    unfold ups
    rw [upr_at, upr_upr]
    exact congrArg _ (cpy_s (srow 2) _ i)
def mtX1_copyFrom : Mt := (yX1_copyFrom, cX1_copyFrom, 5, none, 1, 21, 0, 0)
theorem kX1_copyFrom_0 : Dk mtX1_copyFrom 0 (.aload_n 0) 1 1 := ⟨by decide +kernel, rfl⟩
theorem kX1_copyFrom_1 : Dk mtX1_copyFrom 1 (.aload_n 1) 1 2 := ⟨by decide +kernel, rfl⟩
theorem kX1_copyFrom_2 : Dk mtX1_copyFrom 2 (.getfield 37) 3 5 := ⟨by decide +kernel, rfl⟩
theorem kX1_copyFrom_5 : Dk mtX1_copyFrom 5 (.putfield 37) 3 8 := ⟨by decide +kernel, rfl⟩
theorem kX1_copyFrom_8 : Dk mtX1_copyFrom 8 (.aload_n 0) 1 9 := ⟨by decide +kernel, rfl⟩
theorem kX1_copyFrom_9 : Dk mtX1_copyFrom 9 (.aload_n 1) 1 10 := ⟨by decide +kernel, rfl⟩
theorem kX1_copyFrom_10 : Dk mtX1_copyFrom 10 (.getfield 41) 3 13 := ⟨by decide +kernel, rfl⟩
theorem kX1_copyFrom_13 : Dk mtX1_copyFrom 13 (.putfield 41) 3 16 := ⟨by decide +kernel, rfl⟩
theorem kX1_copyFrom_16 : Dk mtX1_copyFrom 16 (.iconst 0) 1 17 := ⟨by decide +kernel, rfl⟩
theorem kX1_copyFrom_17 : Dk mtX1_copyFrom 17 (.istore_n 2) 1 18 := ⟨by decide +kernel, rfl⟩
theorem kX1_copyFrom_18 : Dk mtX1_copyFrom 18 (.iload_n 2) 1 19 := ⟨by decide +kernel, rfl⟩
theorem kX1_copyFrom_19 : Dk mtX1_copyFrom 19 (.aload_n 0) 1 20 := ⟨by decide +kernel, rfl⟩
theorem kX1_copyFrom_20 : Dk mtX1_copyFrom 20 (.getfield 37) 3 23 := ⟨by decide +kernel, rfl⟩
theorem kX1_copyFrom_23 : Dk mtX1_copyFrom 23 (.if_icmp .ge 37) 3 26 := ⟨by decide +kernel, rfl⟩
theorem kX1_copyFrom_26 : Dk mtX1_copyFrom 26 (.aload_n 0) 1 27 := ⟨by decide +kernel, rfl⟩
theorem kX1_copyFrom_27 : Dk mtX1_copyFrom 27 (.iload_n 2) 1 28 := ⟨by decide +kernel, rfl⟩
theorem kX1_copyFrom_28 : Dk mtX1_copyFrom 28 (.invokevirtual 62) 3 31 := ⟨by decide +kernel, rfl⟩
theorem kX1_copyFrom_31 : Dk mtX1_copyFrom 31 (.astore_n 3) 1 32 := ⟨by decide +kernel, rfl⟩
theorem kX1_copyFrom_32 : Dk mtX1_copyFrom 32 (.aload_n 1) 1 33 := ⟨by decide +kernel, rfl⟩
theorem kX1_copyFrom_33 : Dk mtX1_copyFrom 33 (.iload_n 2) 1 34 := ⟨by decide +kernel, rfl⟩
theorem kX1_copyFrom_34 : Dk mtX1_copyFrom 34 (.invokevirtual 62) 3 37 := ⟨by decide +kernel, rfl⟩
theorem kX1_copyFrom_37 : Dk mtX1_copyFrom 37 (.astore 4) 2 39 := ⟨by decide +kernel, rfl⟩
theorem kX1_copyFrom_39 : Dk mtX1_copyFrom 39 (.aload_n 3) 1 40 := ⟨by decide +kernel, rfl⟩
theorem kX1_copyFrom_40 : Dk mtX1_copyFrom 40 (.ifnull 14) 3 43 := ⟨by decide +kernel, rfl⟩
theorem kX1_copyFrom_43 : Dk mtX1_copyFrom 43 (.aload 4) 2 45 := ⟨by decide +kernel, rfl⟩
theorem kX1_copyFrom_45 : Dk mtX1_copyFrom 45 (.ifnull 9) 3 48 := ⟨by decide +kernel, rfl⟩
theorem kX1_copyFrom_48 : Dk mtX1_copyFrom 48 (.aload_n 3) 1 49 := ⟨by decide +kernel, rfl⟩
theorem kX1_copyFrom_49 : Dk mtX1_copyFrom 49 (.aload 4) 2 51 := ⟨by decide +kernel, rfl⟩
theorem kX1_copyFrom_51 : Dk mtX1_copyFrom 51 (.invokevirtual 66) 3 54 := ⟨by decide +kernel, rfl⟩
theorem kX1_copyFrom_54 : Dk mtX1_copyFrom 54 (.iinc 2 1) 3 57 := ⟨by decide +kernel, rfl⟩
theorem kX1_copyFrom_57 : Dk mtX1_copyFrom 57 (.goto (-39)) 3 60 := ⟨by decide +kernel, rfl⟩
theorem kX1_copyFrom_60 : Dk mtX1_copyFrom 60 (.iconst 0) 1 61 := ⟨by decide +kernel, rfl⟩
theorem kX1_copyFrom_61 : Dk mtX1_copyFrom 61 (.istore_n 2) 1 62 := ⟨by decide +kernel, rfl⟩
theorem kX1_copyFrom_62 : Dk mtX1_copyFrom 62 (.iload_n 2) 1 63 := ⟨by decide +kernel, rfl⟩
theorem kX1_copyFrom_63 : Dk mtX1_copyFrom 63 (.aload_n 0) 1 64 := ⟨by decide +kernel, rfl⟩
theorem kX1_copyFrom_64 : Dk mtX1_copyFrom 64 (.getfield 41) 3 67 := ⟨by decide +kernel, rfl⟩
theorem kX1_copyFrom_67 : Dk mtX1_copyFrom 67 (.if_icmp .ge 37) 3 70 := ⟨by decide +kernel, rfl⟩
theorem kX1_copyFrom_70 : Dk mtX1_copyFrom 70 (.aload_n 0) 1 71 := ⟨by decide +kernel, rfl⟩
theorem kX1_copyFrom_71 : Dk mtX1_copyFrom 71 (.iload_n 2) 1 72 := ⟨by decide +kernel, rfl⟩
theorem kX1_copyFrom_72 : Dk mtX1_copyFrom 72 (.invokevirtual 70) 3 75 := ⟨by decide +kernel, rfl⟩
theorem kX1_copyFrom_75 : Dk mtX1_copyFrom 75 (.astore_n 3) 1 76 := ⟨by decide +kernel, rfl⟩
theorem kX1_copyFrom_76 : Dk mtX1_copyFrom 76 (.aload_n 1) 1 77 := ⟨by decide +kernel, rfl⟩
theorem kX1_copyFrom_77 : Dk mtX1_copyFrom 77 (.iload_n 2) 1 78 := ⟨by decide +kernel, rfl⟩
theorem kX1_copyFrom_78 : Dk mtX1_copyFrom 78 (.invokevirtual 70) 3 81 := ⟨by decide +kernel, rfl⟩
theorem kX1_copyFrom_81 : Dk mtX1_copyFrom 81 (.astore 4) 2 83 := ⟨by decide +kernel, rfl⟩
theorem kX1_copyFrom_83 : Dk mtX1_copyFrom 83 (.aload_n 3) 1 84 := ⟨by decide +kernel, rfl⟩
theorem kX1_copyFrom_84 : Dk mtX1_copyFrom 84 (.ifnull 14) 3 87 := ⟨by decide +kernel, rfl⟩
theorem kX1_copyFrom_87 : Dk mtX1_copyFrom 87 (.aload 4) 2 89 := ⟨by decide +kernel, rfl⟩
theorem kX1_copyFrom_89 : Dk mtX1_copyFrom 89 (.ifnull 9) 3 92 := ⟨by decide +kernel, rfl⟩
theorem kX1_copyFrom_92 : Dk mtX1_copyFrom 92 (.aload_n 3) 1 93 := ⟨by decide +kernel, rfl⟩
theorem kX1_copyFrom_93 : Dk mtX1_copyFrom 93 (.aload 4) 2 95 := ⟨by decide +kernel, rfl⟩
theorem kX1_copyFrom_95 : Dk mtX1_copyFrom 95 (.invokevirtual 74) 3 98 := ⟨by decide +kernel, rfl⟩
theorem kX1_copyFrom_98 : Dk mtX1_copyFrom 98 (.iinc 2 1) 3 101 := ⟨by decide +kernel, rfl⟩
theorem kX1_copyFrom_101 : Dk mtX1_copyFrom 101 (.goto (-39)) 3 104 := ⟨by decide +kernel, rfl⟩
theorem kX1_copyFrom_104 : Dk mtX1_copyFrom 104 (.iconst 0) 1 105 := ⟨by decide +kernel, rfl⟩
theorem kX1_copyFrom_105 : Dk mtX1_copyFrom 105 (.istore_n 2) 1 106 := ⟨by decide +kernel, rfl⟩
theorem kX1_copyFrom_106 : Dk mtX1_copyFrom 106 (.iload_n 2) 1 107 := ⟨by decide +kernel, rfl⟩
theorem kX1_copyFrom_107 : Dk mtX1_copyFrom 107 (.aload_n 0) 1 108 := ⟨by decide +kernel, rfl⟩
theorem kX1_copyFrom_108 : Dk mtX1_copyFrom 108 (.getfield 27) 3 111 := ⟨by decide +kernel, rfl⟩
theorem kX1_copyFrom_111 : Dk mtX1_copyFrom 111 (.arraylength) 1 112 := ⟨by decide +kernel, rfl⟩
theorem kX1_copyFrom_112 : Dk mtX1_copyFrom 112 (.if_icmp .ge 20) 3 115 := ⟨by decide +kernel, rfl⟩
theorem kX1_copyFrom_115 : Dk mtX1_copyFrom 115 (.aload_n 0) 1 116 := ⟨by decide +kernel, rfl⟩
theorem kX1_copyFrom_116 : Dk mtX1_copyFrom 116 (.getfield 27) 3 119 := ⟨by decide +kernel, rfl⟩
theorem kX1_copyFrom_119 : Dk mtX1_copyFrom 119 (.iload_n 2) 1 120 := ⟨by decide +kernel, rfl⟩
theorem kX1_copyFrom_120 : Dk mtX1_copyFrom 120 (.aload_n 1) 1 121 := ⟨by decide +kernel, rfl⟩
theorem kX1_copyFrom_121 : Dk mtX1_copyFrom 121 (.iload_n 2) 1 122 := ⟨by decide +kernel, rfl⟩
theorem kX1_copyFrom_122 : Dk mtX1_copyFrom 122 (.invokevirtual 77) 3 125 := ⟨by decide +kernel, rfl⟩
theorem kX1_copyFrom_125 : Dk mtX1_copyFrom 125 (.iastore) 1 126 := ⟨by decide +kernel, rfl⟩
theorem kX1_copyFrom_126 : Dk mtX1_copyFrom 126 (.iinc 2 1) 3 129 := ⟨by decide +kernel, rfl⟩
theorem kX1_copyFrom_129 : Dk mtX1_copyFrom 129 (.goto (-23)) 3 132 := ⟨by decide +kernel, rfl⟩
theorem kX1_copyFrom_132 : Dk mtX1_copyFrom 132 (.aload_n 0) 1 133 := ⟨by decide +kernel, rfl⟩
theorem kX1_copyFrom_133 : Dk mtX1_copyFrom 133 (.aload_n 1) 1 134 := ⟨by decide +kernel, rfl⟩
theorem kX1_copyFrom_134 : Dk mtX1_copyFrom 134 (.getfield 44) 3 137 := ⟨by decide +kernel, rfl⟩
theorem kX1_copyFrom_137 : Dk mtX1_copyFrom 137 (.putfield 44) 3 140 := ⟨by decide +kernel, rfl⟩
theorem kX1_copyFrom_140 : Dk mtX1_copyFrom 140 (.aload_n 0) 1 141 := ⟨by decide +kernel, rfl⟩
theorem kX1_copyFrom_141 : Dk mtX1_copyFrom 141 (.aload_n 1) 1 142 := ⟨by decide +kernel, rfl⟩
theorem kX1_copyFrom_142 : Dk mtX1_copyFrom 142 (.getfield 47) 3 145 := ⟨by decide +kernel, rfl⟩
theorem kX1_copyFrom_145 : Dk mtX1_copyFrom 145 (.putfield 47) 3 148 := ⟨by decide +kernel, rfl⟩
theorem kX1_copyFrom_148 : Dk mtX1_copyFrom 148 (.aload_n 0) 1 149 := ⟨by decide +kernel, rfl⟩
theorem kX1_copyFrom_149 : Dk mtX1_copyFrom 149 (.aload_n 1) 1 150 := ⟨by decide +kernel, rfl⟩
theorem kX1_copyFrom_150 : Dk mtX1_copyFrom 150 (.getfield 50) 3 153 := ⟨by decide +kernel, rfl⟩
theorem kX1_copyFrom_153 : Dk mtX1_copyFrom 153 (.putfield 50) 3 156 := ⟨by decide +kernel, rfl⟩
theorem kX1_copyFrom_156 : Dk mtX1_copyFrom 156 (.aload_n 0) 1 157 := ⟨by decide +kernel, rfl⟩
theorem kX1_copyFrom_157 : Dk mtX1_copyFrom 157 (.aload_n 1) 1 158 := ⟨by decide +kernel, rfl⟩
theorem kX1_copyFrom_158 : Dk mtX1_copyFrom 158 (.getfield 53) 3 161 := ⟨by decide +kernel, rfl⟩
theorem kX1_copyFrom_161 : Dk mtX1_copyFrom 161 (.putfield 53) 3 164 := ⟨by decide +kernel, rfl⟩
theorem kX1_copyFrom_164 : Dk mtX1_copyFrom 164 (.aload_n 0) 1 165 := ⟨by decide +kernel, rfl⟩
theorem kX1_copyFrom_165 : Dk mtX1_copyFrom 165 (.aload_n 1) 1 166 := ⟨by decide +kernel, rfl⟩
theorem kX1_copyFrom_166 : Dk mtX1_copyFrom 166 (.getfield 56) 3 169 := ⟨by decide +kernel, rfl⟩
theorem kX1_copyFrom_169 : Dk mtX1_copyFrom 169 (.putfield 56) 3 172 := ⟨by decide +kernel, rfl⟩
theorem kX1_copyFrom_172 : Dk mtX1_copyFrom 172 (.aload_n 0) 1 173 := ⟨by decide +kernel, rfl⟩
theorem kX1_copyFrom_173 : Dk mtX1_copyFrom 173 (.aload_n 1) 1 174 := ⟨by decide +kernel, rfl⟩
theorem kX1_copyFrom_174 : Dk mtX1_copyFrom 174 (.getfield 59) 3 177 := ⟨by decide +kernel, rfl⟩
theorem kX1_copyFrom_177 : Dk mtX1_copyFrom 177 (.putfield 59) 3 180 := ⟨by decide +kernel, rfl⟩
theorem kX1_copyFrom_180 : Dk mtX1_copyFrom 180 (.return_) 1 181 := ⟨by decide +kernel, rfl⟩
theorem lmX1_74 : LkM RX1 74 mtX0_copyFrom := Or.inl (by decide +kernel)
theorem mkX0_copyFrom : MkV mtX0_copyFrom 1 := ⟨List.mem_of_getElem? (i := 408) (by decide +kernel), by decide +kernel, by decide +kernel, by decide +kernel, ⟨by decide +kernel, by decide +kernel, by decide +kernel⟩⟩
theorem lmX1_66 : LkM RX1 66 mtX2_copyFrom := Or.inl (by decide +kernel)
theorem mkX2_copyFrom : MkV mtX2_copyFrom 1 := ⟨List.mem_of_getElem? (i := 404) (by decide +kernel), by decide +kernel, by decide +kernel, by decide +kernel, ⟨by decide +kernel, by decide +kernel, by decide +kernel⟩⟩
set_option maxHeartbeats 4000000 in
set_option maxRecDepth 100000 in
theorem cl_copyFrom {l : Launch} {w : Wd} {sg : Sg} (hWr : Wr w) {c c2 : Nat} {g : Gs} (hR : Rel sg c2 g) (hI : Inv g) (hd : c + 18 ≤ c2 ∨ c2 + 18 ≤ c) (hb : Bt sg c) : M l mtX1_copyFrom w [vR (some (1, 0, c)), vR (some (1, 0, c2))] sg (rV (fun sg2 => Rel sg2 c g ∧ Fr c sg sg2)) := by
  refine M_of [some (vR (some (1, 0, c))), some (vR (some (1, 0, c2))), none, none, none] rfl (Nat.le_of_ble_eq_true rfl) (by decide +kernel) ?_
  intro p_ e_ s_ m_ args_ below_ meth_ c_ hC hO
  refine V_aload_n hC kX1_copyFrom_0 rfl ?_
  refine V_aload_n hC kX1_copyFrom_1 rfl ?_
  refine V_getI hC 1 3 lfX1_37 kX1_copyFrom_2 (Nat.le_of_ble_eq_true rfl) (Nat.le_of_ble_eq_true rfl) rfl ?_
  refine V_putI hC 1 3 lfX1_37 kX1_copyFrom_5 (Nat.le_of_ble_eq_true rfl) (Nat.le_of_ble_eq_true rfl) rfl rfl ⟨rfl, rfl⟩ ?_
  refine V_aload_n hC kX1_copyFrom_8 rfl ?_
  refine V_aload_n hC kX1_copyFrom_9 rfl ?_
  refine V_getI hC 1 4 lfX1_41 kX1_copyFrom_10 (Nat.le_of_ble_eq_true rfl) (Nat.le_of_ble_eq_true rfl) rfl ?_
  refine V_putI hC 1 4 lfX1_41 kX1_copyFrom_13 (Nat.le_of_ble_eq_true rfl) (Nat.le_of_ble_eq_true rfl) rfl rfl ⟨rfl, rfl⟩ ?_
  refine V_nameS (fun a0 e_a0 => ?_)
  have h4x := hI.c4.1
  have h5x := hI.c5.1
  have hA0 : Fr c sg a0 ∧ Bt a0 c ∧ (a0 c 3 = g 4 ∧ a0 c 4 = g 5) ∧ ∀ l, l < 0 → ∀ j, j < 9 → a0 (c + 2 + l) j = sg (c2 + 2 + l) j := by
    rw [e_a0]
    refine ⟨((Fr.rf c sg).ups (k := c) _ _ (by omega)).ups _ _ (by omega), fun b hb2 => ?_, ⟨?_, ?_⟩, fun l hl => by omega⟩
    · rw [ups_ne _ _ _ (by omega), ups_ne _ _ _ (by omega)]
      exact hb b hb2
    · rw [ups_v, if_neg (by omega), ups_v, if_pos ⟨rfl, rfl⟩, hR.c3]
    · rw [ups_v, if_pos ⟨rfl, rfl⟩, ups_v, if_neg (by omega), hR.c4]
  refine V_iconst hC (0) kX1_copyFrom_16 (by decide) ?_
  refine V_istore_n hC [some _, some _, some _, none, none] kX1_copyFrom_17 rfl (Nat.le_of_ble_eq_true rfl) ?_
  refine V_loopR (tn (g 4)) (fun i a => Fr c sg a ∧ Bt a c ∧ (a c 3 = g 4 ∧ a c 4 = g 5) ∧ ∀ l, l < i → ∀ j, j < 9 → a (c + 2 + l) j = sg (c2 + 2 + l) j) (fun i _ => [some (vR (some (1, 0, c))), some (vR (some (1, 0, c2))), some (vI (nI i)), none, none]) (fun _ a => a) a0 rfl rfl hA0 (fun a ha => ?_) (fun i a hi ha ih => ?_)
  · refine V_iload_n hC kX1_copyFrom_18 rfl ?_
    refine V_aload_n hC kX1_copyFrom_19 rfl ?_
    refine V_getI hC 1 3 lfX1_37 kX1_copyFrom_20 (Nat.le_of_ble_eq_true rfl) (Nat.le_of_ble_eq_true rfl) rfl ?_
    refine V_icmp_ge hC 60 kX1_copyFrom_23 (by decide) (fun h23 => ?_) (fun h23 => absurd h23 (not_not_intro (by rw [ha.2.2.1.1]; exact cnt_le hI.hc4.1)))
    have hB0 : (Fr c sg a ∧ Bt a c ∧ (a c 3 = g 4 ∧ a c 4 = g 5) ∧ ∀ l, l < tn (g 4) → ∀ j, j < 9 → a (c + 2 + l) j = sg (c2 + 2 + l) j) ∧ ∀ b, b < 0 → ∀ j, 1 ≤ j → j < 11 → a (c + 9 + b) j = sg (c2 + 9 + b) j := ⟨ha, fun b hb2 => by omega⟩
    clear ha
    refine V_nameS (fun a1 e_a1 => ?_)
    rw [← e_a1] at hB0
    refine V_iconst hC (0) kX1_copyFrom_60 (by decide) ?_
    refine V_istore_n hC [some _, some _, some _, none, none] kX1_copyFrom_61 rfl (Nat.le_of_ble_eq_true rfl) ?_
    refine V_loopR (tn (g 5)) (fun i a => (Fr c sg a ∧ Bt a c ∧ (a c 3 = g 4 ∧ a c 4 = g 5) ∧ ∀ l, l < tn (g 4) → ∀ j, j < 9 → a (c + 2 + l) j = sg (c2 + 2 + l) j) ∧ ∀ b, b < i → ∀ j, 1 ≤ j → j < 11 → a (c + 9 + b) j = sg (c2 + 9 + b) j) (fun i _ => [some (vR (some (1, 0, c))), some (vR (some (1, 0, c2))), some (vI (nI i)), none, none]) (fun _ a => a) a1 rfl rfl hB0 (fun a ha => ?_) (fun i a hi ha ih => ?_)
    · refine V_iload_n hC kX1_copyFrom_62 rfl ?_
      refine V_aload_n hC kX1_copyFrom_63 rfl ?_
      refine V_getI hC 1 4 lfX1_41 kX1_copyFrom_64 (Nat.le_of_ble_eq_true rfl) (Nat.le_of_ble_eq_true rfl) rfl ?_
      refine V_icmp_ge hC 104 kX1_copyFrom_67 (by decide) (fun h67 => ?_) (fun h67 => absurd h67 (not_not_intro (by rw [ha.1.2.2.1.2]; exact cnt_le hI.hc5.1)))
      have hB : (Fr c sg a ∧ Bt a c ∧ (a c 3 = g 4 ∧ a c 4 = g 5) ∧ ∀ l, l < tn (g 4) → ∀ j, j < 9 → a (c + 2 + l) j = sg (c2 + 2 + l) j) ∧ ∀ b, b < tn (g 5) → ∀ j, 1 ≤ j → j < 11 → a (c + 9 + b) j = sg (c2 + 9 + b) j := ha
      clear ha
      refine V_nameS (fun a2 e_a2 => ?_)
      rw [← e_a2] at hB
      refine V_iconst hC (0) kX1_copyFrom_104 (by decide) ?_
      refine V_istore_n hC [some _, some _, some _, none, none] kX1_copyFrom_105 rfl (Nat.le_of_ble_eq_true rfl) ?_
      refine V_canon (upr a2 (c + 17) (cpy (sg (c2 + 17)) (a2 (c + 17)) 0)) (by rw [cpy_0, upr_self]) ?_
      refine V_loop 4 (fun i => [some (vR (some (1, 0, c))), some (vR (some (1, 0, c2))), some (vI (nI i)), none, none]) (fun i => upr a2 (c + 17) (cpy (sg (c2 + 17)) (a2 (c + 17)) i)) rfl rfl ?_ (fun i hi ihi => ?_)
      · refine V_iload_n hC kX1_copyFrom_106 rfl ?_
        refine V_aload_n hC kX1_copyFrom_107 rfl ?_
        refine V_getR hC hWr 1 2 lfX1_27 kX1_copyFrom_108 (Nat.le_of_ble_eq_true rfl) (Nat.le_of_ble_eq_true rfl) rfl ?_
        refine V_alen hC _ kX1_copyFrom_111 ⟨(Nat.le_of_ble_eq_true rfl), (Nat.le_of_ble_eq_true rfl)⟩ rfl ?_
        refine V_icmp_ge hC 132 kX1_copyFrom_112 (by decide) (fun h112 => ?_) (fun h112 => absurd h112 (not_not_intro (nI_lit rfl)))
        refine V_nameS (fun a3 e_a3 => ?_)
        have hF3 : ∀ k j, (k < c ∨ c + 18 ≤ k) → a3 k j = sg k j := fun k j hk => by rw [e_a3, upr_ne _ _ (by omega), hB.1.1 k hk]
        have hc3 : a3 c 3 = g 4 ∧ a3 c 4 = g 5 := by rw [e_a3, upr_ne _ _ (by omega)]; exact hB.1.2.2.1
        have hs3 : ∀ j, j < 4 → a3 (c + 17) j = sg (c2 + 17) j := fun j hj => by rw [e_a3, upr_at]; exact if_pos hj
        have hl3 : ∀ l, l < tn (g 4) → ∀ j, j < 9 → a3 (c + 2 + l) j = sg (c2 + 2 + l) j := fun l hl j hj => by rw [e_a3, upr_ne _ _ (by omega)]; exact hB.1.2.2.2 l hl j hj
        have hb3 : ∀ b, b < tn (g 5) → ∀ j, 1 ≤ j → j < 11 → a3 (c + 9 + b) j = sg (c2 + 9 + b) j := fun b hb2 j h1 h2 => by rw [e_a3, upr_ne _ _ (by omega)]; exact hB.2 b hb2 j h1 h2
        have ht3 : Bt a3 c := fun b hb2 => by rw [e_a3, upr_ne _ _ (by omega)]; exact hB.1.2.1 b hb2
        have hFr3 : Fr c sg a3 := fun k hk => funext (fun j => hF3 k j hk)
        clear e_a3 hB
        refine V_aload_n hC kX1_copyFrom_132 rfl ?_
        refine V_aload_n hC kX1_copyFrom_133 rfl ?_
        refine V_getI hC 1 5 lfX1_44 kX1_copyFrom_134 (Nat.le_of_ble_eq_true rfl) (Nat.le_of_ble_eq_true rfl) rfl ?_
        refine V_putI hC 1 5 lfX1_44 kX1_copyFrom_137 (Nat.le_of_ble_eq_true rfl) (Nat.le_of_ble_eq_true rfl) rfl rfl ⟨rfl, rfl⟩ ?_
        refine V_aload_n hC kX1_copyFrom_140 rfl ?_
        refine V_aload_n hC kX1_copyFrom_141 rfl ?_
        refine V_getI hC 1 6 lfX1_47 kX1_copyFrom_142 (Nat.le_of_ble_eq_true rfl) (Nat.le_of_ble_eq_true rfl) rfl ?_
        refine V_putI hC 1 6 lfX1_47 kX1_copyFrom_145 (Nat.le_of_ble_eq_true rfl) (Nat.le_of_ble_eq_true rfl) rfl rfl ⟨rfl, rfl⟩ ?_
        refine V_aload_n hC kX1_copyFrom_148 rfl ?_
        refine V_aload_n hC kX1_copyFrom_149 rfl ?_
        refine V_getI hC 1 7 lfX1_50 kX1_copyFrom_150 (Nat.le_of_ble_eq_true rfl) (Nat.le_of_ble_eq_true rfl) rfl ?_
        refine V_putI hC 1 7 lfX1_50 kX1_copyFrom_153 (Nat.le_of_ble_eq_true rfl) (Nat.le_of_ble_eq_true rfl) rfl rfl ⟨rfl, rfl⟩ ?_
        refine V_aload_n hC kX1_copyFrom_156 rfl ?_
        refine V_aload_n hC kX1_copyFrom_157 rfl ?_
        refine V_getI hC 1 8 lfX1_53 kX1_copyFrom_158 (Nat.le_of_ble_eq_true rfl) (Nat.le_of_ble_eq_true rfl) rfl ?_
        refine V_putI hC 1 8 lfX1_53 kX1_copyFrom_161 (Nat.le_of_ble_eq_true rfl) (Nat.le_of_ble_eq_true rfl) rfl rfl ⟨rfl, rfl⟩ ?_
        refine V_aload_n hC kX1_copyFrom_164 rfl ?_
        refine V_aload_n hC kX1_copyFrom_165 rfl ?_
        refine V_getI hC 1 9 lfX1_56 kX1_copyFrom_166 (Nat.le_of_ble_eq_true rfl) (Nat.le_of_ble_eq_true rfl) rfl ?_
        refine V_putI hC 1 9 lfX1_56 kX1_copyFrom_169 (Nat.le_of_ble_eq_true rfl) (Nat.le_of_ble_eq_true rfl) rfl rfl ⟨rfl, rfl⟩ ?_
        refine V_aload_n hC kX1_copyFrom_172 rfl ?_
        refine V_aload_n hC kX1_copyFrom_173 rfl ?_
        refine V_getI hC 1 10 lfX1_59 kX1_copyFrom_174 (Nat.le_of_ble_eq_true rfl) (Nat.le_of_ble_eq_true rfl) rfl ?_
        refine V_putI hC 1 10 lfX1_59 kX1_copyFrom_177 (Nat.le_of_ble_eq_true rfl) (Nat.le_of_ble_eq_true rfl) rfl rfl ⟨rfl, rfl⟩ ?_
        refine V_vret hC rfl kX1_copyFrom_180 ?_
        refine ⟨by with_reducible rfl, hR.copy (fun j h1 h2 => ?_) (fun j hj => ?_) (fun l hl j hj => ?_) (fun b hb2 j h1 h2 => ?_) hI (fun b hb2 => ?_), (((((hFr3.ups _ _ ?_).ups _ _ ?_).ups _ _ ?_).ups _ _ ?_).ups _ _ ?_).ups _ _ ?_⟩
        · obtain rfl | rfl | rfl | rfl | rfl | rfl | rfl | rfl : j = 3 ∨ j = 4 ∨ j = 5 ∨ j = 6 ∨ j = 7 ∨ j = 8 ∨ j = 9 ∨ j = 10 := by omega
          · repeat rw [ups_v, if_neg (by omega)]
            rw [hc3.1, hR.c3]
          · repeat rw [ups_v, if_neg (by omega)]
            rw [hc3.2, hR.c4]
          · rw [ups_v, if_neg (by omega)]
            rw [ups_v, if_neg (by omega)]
            rw [ups_v, if_neg (by omega)]
            rw [ups_v, if_neg (by omega)]
            rw [ups_v, if_neg (by omega)]
            rw [ups_v, if_pos ⟨rfl, rfl⟩]
            exact hF3 _ _ (by omega)
          · rw [ups_v, if_neg (by omega)]
            rw [ups_v, if_neg (by omega)]
            rw [ups_v, if_neg (by omega)]
            rw [ups_v, if_neg (by omega)]
            rw [ups_v, if_pos ⟨rfl, rfl⟩]
            rw [ups_v, if_neg (by omega)]
            exact hF3 _ _ (by omega)
          · rw [ups_v, if_neg (by omega)]
            rw [ups_v, if_neg (by omega)]
            rw [ups_v, if_neg (by omega)]
            rw [ups_v, if_pos ⟨rfl, rfl⟩]
            rw [ups_v, if_neg (by omega)]
            rw [ups_v, if_neg (by omega)]
            exact hF3 _ _ (by omega)
          · rw [ups_v, if_neg (by omega)]
            rw [ups_v, if_neg (by omega)]
            rw [ups_v, if_pos ⟨rfl, rfl⟩]
            rw [ups_v, if_neg (by omega)]
            rw [ups_v, if_neg (by omega)]
            rw [ups_v, if_neg (by omega)]
            exact hF3 _ _ (by omega)
          · rw [ups_v, if_neg (by omega)]
            rw [ups_v, if_pos ⟨rfl, rfl⟩]
            rw [ups_v, if_neg (by omega)]
            rw [ups_v, if_neg (by omega)]
            rw [ups_v, if_neg (by omega)]
            rw [ups_v, if_neg (by omega)]
            exact hF3 _ _ (by omega)
          · rw [ups_v, if_pos ⟨rfl, rfl⟩]
            rw [ups_v, if_neg (by omega)]
            rw [ups_v, if_neg (by omega)]
            rw [ups_v, if_neg (by omega)]
            rw [ups_v, if_neg (by omega)]
            rw [ups_v, if_neg (by omega)]
            exact hF3 _ _ (by omega)
        · repeat rw [ups_ne _ _ _ (by omega)]
          exact hs3 j hj
        · repeat rw [ups_ne _ _ _ (by omega)]
          exact hl3 l hl j hj
        · repeat rw [ups_ne _ _ _ (by omega)]
          exact hb3 b hb2 j h1 h2
        · repeat rw [ups_ne _ _ _ (by omega)]
          exact ht3 b hb2
        all_goals omega
      · refine V_iload_n hC kX1_copyFrom_106 rfl ?_
        refine V_aload_n hC kX1_copyFrom_107 rfl ?_
        refine V_getR hC hWr 1 2 lfX1_27 kX1_copyFrom_108 (Nat.le_of_ble_eq_true rfl) (Nat.le_of_ble_eq_true rfl) rfl ?_
        refine V_alen hC _ kX1_copyFrom_111 ⟨(Nat.le_of_ble_eq_true rfl), (Nat.le_of_ble_eq_true rfl)⟩ rfl ?_
        refine V_icmp_ge hC 132 kX1_copyFrom_112 (by decide) (fun h112 => absurd h112 (by exact nI_ge (b := 4) hi (by decide))) (fun h112 => ?_)
        refine V_aload_n hC kX1_copyFrom_115 rfl ?_
        refine V_getR hC hWr 1 2 lfX1_27 kX1_copyFrom_116 (Nat.le_of_ble_eq_true rfl) (Nat.le_of_ble_eq_true rfl) rfl ?_
        refine V_iload_n hC kX1_copyFrom_119 rfl ?_
        refine V_aload_n hC kX1_copyFrom_120 rfl ?_
        refine V_iload_n hC kX1_copyFrom_121 rfl ?_
        refine V_cV_fI hC (cl_settingOf hWr (j := i) hi rfl) mkX1_settingOf lmX1_77 kX1_copyFrom_122 (Nat.le_of_ble_eq_true rfl) rfl rfl rfl (Nat.le_of_ble_eq_true rfl) ⟨(Nat.le_of_ble_eq_true rfl), (Nat.le_of_ble_eq_true rfl)⟩ ⟨rfl, rfl⟩ ⟨(Nat.le_of_ble_eq_true rfl), (Nat.le_of_ble_eq_true rfl)⟩ ?_
        refine V_iast hC i (nI_clamp (by omega)) kX1_copyFrom_125 (vp_in_nI hi (by decide)) ?_
        refine V_iinc hC (_ + 1) [some _, some _, some _, none, none] kX1_copyFrom_126 rfl rfl rfl (Nat.le_of_ble_eq_true rfl) ?_
        refine V_goto hC 106 kX1_copyFrom_129 (by decide) ?_
        refine V_eq (by rw [nI_succ]) ?_ ihi
        unfold ups
        rw [upr_at, upr_upr, upr_ne _ _ (show c2 + 17 ≠ c + 17 by omega), hB.1.1 (c2 + 17) (by omega)]
        exact congrArg _ (cpy_s (sg (c2 + 17)) _ i)
    · refine V_iload_n hC kX1_copyFrom_62 rfl ?_
      refine V_aload_n hC kX1_copyFrom_63 rfl ?_
      refine V_getI hC 1 4 lfX1_41 kX1_copyFrom_64 (Nat.le_of_ble_eq_true rfl) (Nat.le_of_ble_eq_true rfl) rfl ?_
      refine V_icmp_ge hC 104 kX1_copyFrom_67 (by decide) (fun h67 => absurd h67 (by rw [ha.1.2.2.1.2]; exact cnt_lt hI.hc5.1 hi)) (fun h67 => ?_)
      refine V_aload_n hC kX1_copyFrom_70 rfl ?_
      refine V_iload_n hC kX1_copyFrom_71 rfl ?_
      refine V_cV_fR hC (cl_boatAt hWr rfl (by omega) (by rw [ha.1.2.2.1.2, hI.c5.2]; exact (nI_ltI (by have := hI.c5.1; omega) (by have := hI.c5.1; omega)).mpr hi)) mkX1_boatAt lmX1_70 kX1_copyFrom_72 (Nat.le_of_ble_eq_true rfl) rfl rfl rfl (Nat.le_of_ble_eq_true rfl) ⟨(Nat.le_of_ble_eq_true rfl), (Nat.le_of_ble_eq_true rfl)⟩ ⟨rfl, rfl⟩ ⟨(Nat.le_of_ble_eq_true rfl), (Nat.le_of_ble_eq_true rfl)⟩ ?_
      refine V_astore_n hC [some _, some _, some _, some _, none] kX1_copyFrom_75 rfl (Nat.le_of_ble_eq_true rfl) ?_
      refine V_aload_n hC kX1_copyFrom_76 rfl ?_
      refine V_iload_n hC kX1_copyFrom_77 rfl ?_
      refine V_cV_fR hC (cl_boatAt hWr rfl (by omega) (by rw [ha.1.1 c2 (by omega), hR.c4, hI.c5.2]; exact (nI_ltI (by have := hI.c5.1; omega) (by have := hI.c5.1; omega)).mpr hi)) mkX1_boatAt lmX1_70 kX1_copyFrom_78 (Nat.le_of_ble_eq_true rfl) rfl rfl rfl (Nat.le_of_ble_eq_true rfl) ⟨(Nat.le_of_ble_eq_true rfl), (Nat.le_of_ble_eq_true rfl)⟩ ⟨rfl, rfl⟩ ⟨(Nat.le_of_ble_eq_true rfl), (Nat.le_of_ble_eq_true rfl)⟩ ?_
      refine V_astore hC [some _, some _, some _, some _, some _] kX1_copyFrom_81 rfl (Nat.le_of_ble_eq_true rfl) ?_
      refine V_aload_n hC kX1_copyFrom_83 rfl ?_
      refine V_ifnull hC 98 kX1_copyFrom_84 (by decide) (fun hq => by cases hq) (fun _ _ => ?_)
      refine V_aload hC kX1_copyFrom_87 rfl ?_
      refine V_ifnull hC 98 kX1_copyFrom_89 (by decide) (fun hq => by cases hq) (fun _ _ => ?_)
      refine V_aload_n hC kX1_copyFrom_92 rfl ?_
      refine V_aload hC kX1_copyFrom_93 rfl ?_
      refine V_cV_fV hC (cl_bcopy hWr (by omega)) mkX0_copyFrom lmX1_74 kX1_copyFrom_95 (Nat.le_of_ble_eq_true rfl) rfl rfl rfl (Nat.le_of_ble_eq_true rfl) ⟨(Nat.le_of_ble_eq_true rfl), (Nat.le_of_ble_eq_true rfl)⟩ ⟨rfl, rfl⟩ ⟨(Nat.le_of_ble_eq_true rfl), (Nat.le_of_ble_eq_true rfl)⟩ ?_
      refine V_iinc hC (_ + 1) [some _, some _, some _, some _, some _] kX1_copyFrom_98 rfl rfl rfl (Nat.le_of_ble_eq_true rfl) ?_
      refine V_goto hC 62 kX1_copyFrom_101 (by decide) ?_
      refine V_drop 3 [_, _, _, none, _] rfl ?_
      refine V_drop 4 [_, _, _, none, none] rfl ?_
      refine V_eq (by rw [nI_succ]) rfl (ih _ ⟨⟨ha.1.1.upr _ (by omega), fun b hb2 => ?_, ⟨?_, ?_⟩, fun l hl j hj => ?_⟩, fun b hb2 j hj1 hj2 => ?_⟩)
      · by_cases e : b = i
        · subst e
          rw [upr_at]
          repeat rw [pk_un (by decide)]
          exact ha.1.2.1 b hb2
        · rw [upr_ne _ _ (by omega)]
          exact ha.1.2.1 b hb2
      · rw [upr_ne _ _ (by omega)]
        exact ha.1.2.2.1.1
      · rw [upr_ne _ _ (by omega)]
        exact ha.1.2.2.1.2
      · rw [upr_ne _ _ (by omega)]
        exact ha.1.2.2.2 l hl j hj
      · by_cases e : b = i
        · subst e
          rw [upr_at]
          have hf : ∀ j, a (c2 + 9 + b) j = sg (c2 + 9 + b) j := fun j => by rw [ha.1.1 _ (by omega)]
          obtain rfl | rfl | rfl | rfl | rfl | rfl | rfl | rfl | rfl | rfl : j = 1 ∨ j = 2 ∨ j = 3 ∨ j = 4 ∨ j = 5 ∨ j = 6 ∨ j = 7 ∨ j = 8 ∨ j = 9 ∨ j = 10 := by omega
          all_goals (repeat (first | rw [pk_us] | rw [pk_un (by decide)])); exact hf _
        · rw [upr_ne _ _ (by omega)]
          exact ha.2 b (by omega) j hj1 hj2
  · refine V_iload_n hC kX1_copyFrom_18 rfl ?_
    refine V_aload_n hC kX1_copyFrom_19 rfl ?_
    refine V_getI hC 1 3 lfX1_37 kX1_copyFrom_20 (Nat.le_of_ble_eq_true rfl) (Nat.le_of_ble_eq_true rfl) rfl ?_
    refine V_icmp_ge hC 60 kX1_copyFrom_23 (by decide) (fun h23 => absurd h23 (by rw [ha.2.2.1.1]; exact cnt_lt hI.hc4.1 hi)) (fun h23 => ?_)
    refine V_aload_n hC kX1_copyFrom_26 rfl ?_
    refine V_iload_n hC kX1_copyFrom_27 rfl ?_
    refine V_cV_fR hC (cl_lightAt hWr rfl (by omega) (by rw [ha.2.2.1.1, hI.c4.2]; exact (nI_ltI (by have := hI.c4.1; omega) (by have := hI.c4.1; omega)).mpr hi)) mkX1_lightAt lmX1_62 kX1_copyFrom_28 (Nat.le_of_ble_eq_true rfl) rfl rfl rfl (Nat.le_of_ble_eq_true rfl) ⟨(Nat.le_of_ble_eq_true rfl), (Nat.le_of_ble_eq_true rfl)⟩ ⟨rfl, rfl⟩ ⟨(Nat.le_of_ble_eq_true rfl), (Nat.le_of_ble_eq_true rfl)⟩ ?_
    refine V_astore_n hC [some _, some _, some _, some _, none] kX1_copyFrom_31 rfl (Nat.le_of_ble_eq_true rfl) ?_
    refine V_aload_n hC kX1_copyFrom_32 rfl ?_
    refine V_iload_n hC kX1_copyFrom_33 rfl ?_
    refine V_cV_fR hC (cl_lightAt hWr rfl (by omega) (by rw [ha.1 c2 (by omega), hR.c3, hI.c4.2]; exact (nI_ltI (by have := hI.c4.1; omega) (by have := hI.c4.1; omega)).mpr hi)) mkX1_lightAt lmX1_62 kX1_copyFrom_34 (Nat.le_of_ble_eq_true rfl) rfl rfl rfl (Nat.le_of_ble_eq_true rfl) ⟨(Nat.le_of_ble_eq_true rfl), (Nat.le_of_ble_eq_true rfl)⟩ ⟨rfl, rfl⟩ ⟨(Nat.le_of_ble_eq_true rfl), (Nat.le_of_ble_eq_true rfl)⟩ ?_
    refine V_astore hC [some _, some _, some _, some _, some _] kX1_copyFrom_37 rfl (Nat.le_of_ble_eq_true rfl) ?_
    refine V_aload_n hC kX1_copyFrom_39 rfl ?_
    refine V_ifnull hC 54 kX1_copyFrom_40 (by decide) (fun hq => by cases hq) (fun _ _ => ?_)
    refine V_aload hC kX1_copyFrom_43 rfl ?_
    refine V_ifnull hC 54 kX1_copyFrom_45 (by decide) (fun hq => by cases hq) (fun _ _ => ?_)
    refine V_aload_n hC kX1_copyFrom_48 rfl ?_
    refine V_aload hC kX1_copyFrom_49 rfl ?_
    refine V_cV_fV hC (cl_lcopy hWr (by omega)) mkX2_copyFrom lmX1_66 kX1_copyFrom_51 (Nat.le_of_ble_eq_true rfl) rfl rfl rfl (Nat.le_of_ble_eq_true rfl) ⟨(Nat.le_of_ble_eq_true rfl), (Nat.le_of_ble_eq_true rfl)⟩ ⟨rfl, rfl⟩ ⟨(Nat.le_of_ble_eq_true rfl), (Nat.le_of_ble_eq_true rfl)⟩ ?_
    refine V_iinc hC (_ + 1) [some _, some _, some _, some _, some _] kX1_copyFrom_54 rfl rfl rfl (Nat.le_of_ble_eq_true rfl) ?_
    refine V_goto hC 18 kX1_copyFrom_57 (by decide) ?_
    refine V_drop 3 [_, _, _, none, _] rfl ?_
    refine V_drop 4 [_, _, _, none, none] rfl ?_
    refine V_eq (by rw [nI_succ]) rfl (ih _ ⟨ha.1.upr _ (by omega), fun b hb2 => ?_, ⟨?_, ?_⟩, fun l hl j hj => ?_⟩)
    · rw [upr_ne _ _ (by omega)]
      exact ha.2.1 b hb2
    · rw [upr_ne _ _ (by omega)]
      exact ha.2.2.1.1
    · rw [upr_ne _ _ (by omega)]
      exact ha.2.2.1.2
    · by_cases e : l = i
      · subst e
        rw [upr_at]
        have hf : ∀ j, a (c2 + 2 + l) j = sg (c2 + 2 + l) j := fun j => by rw [ha.1 _ (by omega)]
        obtain rfl | rfl | rfl | rfl | rfl | rfl | rfl | rfl | rfl : j = 0 ∨ j = 1 ∨ j = 2 ∨ j = 3 ∨ j = 4 ∨ j = 5 ∨ j = 6 ∨ j = 7 ∨ j = 8 := by omega
        all_goals (repeat (first | rw [pk_us] | rw [pk_un (by decide)])); exact hf _
      · rw [upr_ne _ _ (by omega)]
        exact ha.2.2.2 l (by omega) j hj

