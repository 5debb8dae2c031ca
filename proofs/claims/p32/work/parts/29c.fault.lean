-- HOW cl_isPlace fI
-- HOW cl_isSpeed fI
-- HOW cl_isStrength fI
-- HOW cl_isTickCount fI
-- HOW cl_isSetting fI
-- HOW cl_isSlot fI
-- HOW cl_isSettingValue fI
-- HOW cl_shown fI
-- HOW cl_lbegin fV
-- HOW cl_lcopy fV
-- HOW cl_bcopy fV
-- HOW cl_lnum fI
-- HOW cl_bnum fI
-- HOW cl_bright fI
-- HOW cl_worth fI
-- HOW cl_bitCount fI
-- HOW cl_servedCount fI
-- HOW cl_takesHandedOn fI
-- HOW cl_takesOthers fI
-- HOW cl_bbegin fV
-- HOW cl_move fV
-- HOW cl_wishFor fV
-- HOW cl_lightR fR
-- HOW cl_lightN fR
-- HOW cl_boatR fR
-- HOW cl_boatN fR
-- HOW cl_setR fI
-- HOW cl_lightAt fR
-- HOW cl_lightAtNo fR
-- HOW cl_boatAt fR
-- HOW cl_boatAtNo fR
-- HOW cl_settingOf fI
-- HOW cl_servedBoats fI
-- HOW cl_talkingBoats fI
-- HOW cl_numberOf fI
-- HOW cl_brightest fI
-- HOW cl_isDark fI
-- HOW cl_freePlaces fI
-- HOW cl_lightFault fI
-- HOW cl_boatFault fI
-- HOW cl_steerFault fI
-- HOW cl_dimFault fI
-- HOW cl_leanFault fI
-- HOW cl_talkFault fI
-- HOW cl_putSpeed rI
-- HOW cl_putTalk rI
-- HOW cl_putLeaning rI
-- HOW cl_putStrength rI
-- HOW cl_putSetting rI
-- HOW cl_addLight rI
-- HOW cl_addBoat rI
-- HOW cl_tryLight rI
-- HOW cl_tryBoat rI
-- HOW cl_trySteer rI
-- HOW cl_tryTalk rI
-- HOW cl_tryLean rI
-- HOW cl_tryDim rI
-- HOW cl_serve rV
-- HOW cl_lose rV
-- HOW cl_bestWish fI
-- HOW cl_seekKeeper rV
-- HOW cl_ask rV
-- HOW cl_sail rV
-- HOW cl_pass rV
-- HOW cl_reset rV
-- HOW cl_copyFrom rV
-- HOW cl_stateAt fR
-- HOW cl_slotAt fR
-- HOW cl_hasStates fI
-- HOW cl_remember rV
-- HOW cl_takeBack rI
-- HOW cl_isKept fI
-- HOW cl_keep rV
-- HOW cl_bring rV
-- HOW cl_gained fI
-- HOW cl_dark fI
-- HOW cl_room fI
-- HOW cl_takeTurn rV
-- HOW cl_throwFault xV
/-! returns and calls of methods that may throw; throwFault -/
section FLATY
variable {p : Program} {l : Launch} {e : Env} {R : Room} {s : State} {m : MethodId} {args : Array Value} {below : List Frame} {meth : Method} {c : Code} {Q : State → Prop} {t : Mt} {w : Wd} {cs sl pc nx : Nat} {loc : List (Option VV)} {st : List VV} {sg : Sg}
theorem V_wd {k n : Nat} (h : cs ≤ k ∧ sl ≤ n) (kk : V p l e R s m args below meth c t w Q k n pc loc st sg) : V p l e R s m args below meth c t w Q cs sl pc loc st sg := fun H locs ls a b cc d T hT X => kk H locs ls a b cc d T hT (stand_widen X h.1 h.2)
theorem V_iretiX {post : Option VV → Sg → Prop} {px : String → Sg → Prop} (hC : Cx p R s m args meth c t w) (hT : mT t = some .int) {x : Int32} (hd : Dk t pc .ireturn 1 nx) (hcell : cs ≤ mC t ∧ sl ≤ mS t) (hp : post (some (vI x)) sg) : V p l e R s m args below meth c t w (vx_MQ below (Qm w w post) (XC w px) args s (mC t) (mS t) (wF w)) cs sl pc loc [vI x] sg := V_wd hcell (V_retX (V_ireti hC hT hd hp))
theorem V_vretX {post : Option VV → Sg → Prop} {px : String → Sg → Prop} (hC : Cx p R s m args meth c t w) (hT : mT t = none) (hd : Dk t pc .return_ 1 nx) (hcell : cs ≤ mC t ∧ sl ≤ mS t) (hp : post none sg) : V p l e R s m args below meth c t w (vx_MQ below (Qm w w post) (XC w px) args s (mC t) (mS t) (wF w)) cs sl pc loc [] sg := V_wd hcell (V_retX (V_vret hC hT hd hp))
theorem V_cSX_rV {post : Option VV → Sg → Prop} {px px0 : String → Sg → Prop} {t' : Mt} {n : Nat} {idx : Nat} {av rest : List VV} {f : Sg → Prop} (hC : Cx p R s m args meth c t w) (hX : CX l s c w) (hM : MX l t' w av sg (rV f) px0) (hmk : MkS t' n) (hlk : Cond.methodLink (mY t).cls idx (mY t') ∈ lw_tbl) (hd : Dk t pc (.invokestatic idx) 3 nx) (hn : av.length = n) (hst : st = av.reverse ++ rest) (hroom : (rest.map catV).sum ≤ 8) (hR : mF t' + 1 ≤ mF t ∧ 8 + (mL t' + 11) + mO t' ≤ mO t) (hcell : cs + mC t' ≤ mC t ∧ sl + mS t' ≤ mS t) (hpx : ∀ E g, px0 E g → px E g)
    (kk : ∀ sg', f sg' → V p l e R s m args below meth c t w (vx_MQ below (Qm w w post) (XC w px) args s (mC t) (mS t) (wF w)) (cs + mC t') (sl + mS t') nx loc rest sg') : V p l e R s m args below meth c t w (vx_MQ below (Qm w w post) (XC w px) args s (mC t) (mS t) (wF w)) cs sl pc loc st sg :=
  V_invSX hC hX.1 hM hmk hlk hd hn hst hroom hR hcell (fun E g h => VX_out hC hX (hpx E g h) hcell) (fun r g h => by obtain ⟨rfl, h2⟩ := h; exact kk g h2)
end FLATY
theorem thc1 : thC "java/lang/IllegalArgumentException" 33 37 := Or.inl ⟨rfl, rfl, rfl⟩
theorem thc2 : thC "java/lang/IllegalStateException" 44 48 := Or.inr (Or.inl ⟨rfl, rfl, rfl⟩)
theorem thc3 : thC "java/lang/IndexOutOfBoundsException" 115 119 := Or.inr (Or.inr ⟨rfl, rfl, rfl⟩)
/-- the exception of a code: 1, 2, 3 -/
def eX (k : Int32) : String := if k = 1 then "java/lang/IndexOutOfBoundsException" else if k = 2 then "java/lang/IllegalArgumentException" else "java/lang/IllegalStateException"
theorem eX1 : eX 1 = "java/lang/IndexOutOfBoundsException" := by decide
theorem eX2 : eX 2 = "java/lang/IllegalArgumentException" := by decide
theorem eX3 : eX 3 = "java/lang/IllegalStateException" := by decide
def pX (K : Int32) (sg : Sg) : String → Sg → Prop := fun E g => ¬ K = 0 ∧ E = eX K ∧ g = sg
def rX (K : Int32) (f : Int32 → Sg → Prop) : Option VV → Sg → Prop := rI (fun x g => K = 0 ∧ f x g)
theorem pX_of {K : Int32} {sg : Sg} {E : String} (n : Int32) (h : K = n) (hn : ¬ n = 0) (hE : eX n = E) : pX K sg E sg := ⟨by rw [h]; exact hn, by rw [h, hE], rfl⟩
def mtX5_throwFault : Mt := (yX5_throwFault, cX5_throwFault, 1, none, 7, 221, 1, 6)
theorem kX5_throwFault_0 : Dk mtX5_throwFault 0 (.iload_n 0) 1 1 := ⟨by decide +kernel, rfl⟩
theorem kX5_throwFault_1 : Dk mtX5_throwFault 1 (.iconst 1) 1 2 := ⟨by decide +kernel, rfl⟩
theorem kX5_throwFault_2 : Dk mtX5_throwFault 2 (.if_icmp .ne 14) 3 5 := ⟨by decide +kernel, rfl⟩
theorem kX5_throwFault_5 : Dk mtX5_throwFault 5 (.new 115) 3 8 := ⟨by decide +kernel, rfl⟩
theorem kX5_throwFault_8 : Dk mtX5_throwFault 8 (.dup) 1 9 := ⟨by decide +kernel, rfl⟩
theorem kX5_throwFault_9 : Dk mtX5_throwFault 9 (.ldc_w 328) 3 12 := ⟨by decide +kernel, rfl⟩
theorem kX5_throwFault_12 : Dk mtX5_throwFault 12 (.invokespecial 119) 3 15 := ⟨by decide +kernel, rfl⟩
theorem kX5_throwFault_15 : Dk mtX5_throwFault 15 (.athrow) 1 16 := ⟨by decide +kernel, rfl⟩
theorem kX5_throwFault_16 : Dk mtX5_throwFault 16 (.iload_n 0) 1 17 := ⟨by decide +kernel, rfl⟩
theorem kX5_throwFault_17 : Dk mtX5_throwFault 17 (.iconst 2) 1 18 := ⟨by decide +kernel, rfl⟩
theorem kX5_throwFault_18 : Dk mtX5_throwFault 18 (.if_icmp .ne 14) 3 21 := ⟨by decide +kernel, rfl⟩
theorem kX5_throwFault_21 : Dk mtX5_throwFault 21 (.new 33) 3 24 := ⟨by decide +kernel, rfl⟩
theorem kX5_throwFault_24 : Dk mtX5_throwFault 24 (.dup) 1 25 := ⟨by decide +kernel, rfl⟩
theorem kX5_throwFault_25 : Dk mtX5_throwFault 25 (.ldc_w 330) 3 28 := ⟨by decide +kernel, rfl⟩
theorem kX5_throwFault_28 : Dk mtX5_throwFault 28 (.invokespecial 37) 3 31 := ⟨by decide +kernel, rfl⟩
theorem kX5_throwFault_31 : Dk mtX5_throwFault 31 (.athrow) 1 32 := ⟨by decide +kernel, rfl⟩
theorem kX5_throwFault_32 : Dk mtX5_throwFault 32 (.iload_n 0) 1 33 := ⟨by decide +kernel, rfl⟩
theorem kX5_throwFault_33 : Dk mtX5_throwFault 33 (.iconst 3) 1 34 := ⟨by decide +kernel, rfl⟩
theorem kX5_throwFault_34 : Dk mtX5_throwFault 34 (.if_icmp .ne 14) 3 37 := ⟨by decide +kernel, rfl⟩
theorem kX5_throwFault_37 : Dk mtX5_throwFault 37 (.new 44) 3 40 := ⟨by decide +kernel, rfl⟩
theorem kX5_throwFault_40 : Dk mtX5_throwFault 40 (.dup) 1 41 := ⟨by decide +kernel, rfl⟩
theorem kX5_throwFault_41 : Dk mtX5_throwFault 41 (.ldc_w 332) 3 44 := ⟨by decide +kernel, rfl⟩
theorem kX5_throwFault_44 : Dk mtX5_throwFault 44 (.invokespecial 48) 3 47 := ⟨by decide +kernel, rfl⟩
theorem kX5_throwFault_47 : Dk mtX5_throwFault 47 (.athrow) 1 48 := ⟨by decide +kernel, rfl⟩
theorem kX5_throwFault_48 : Dk mtX5_throwFault 48 (.return_) 1 49 := ⟨by decide +kernel, rfl⟩
set_option maxHeartbeats 4000000 in
set_option maxRecDepth 100000 in
theorem cl_throwFault {l : Launch} {w : Wd} {sg : Sg} (hWr : Wr w) (hl0 : l.stackTraces = false) (k : Int32) (hk : k = 0 ∨ k = 1 ∨ k = 2 ∨ k = 3) : MX l mtX5_throwFault w [vI k] sg (rV (fun g => k = 0 ∧ g = sg)) (pX k sg) := by
  refine MX_of hl0 [some (vI k)] rfl (Nat.le_of_ble_eq_true rfl) (by decide +kernel) ?_
  intro p_ e_ s_ m_ args_ below_ meth_ c_ hC hX hO
  refine V_iload_n hC kX5_throwFault_0 rfl ?_
  refine V_iconst hC (1) kX5_throwFault_1 (by decide) ?_
  refine V_icmp_ne hC 16 kX5_throwFault_2 (by decide) (fun h2 => ?_) (fun h2 => ?_)
  · refine V_iload_n hC kX5_throwFault_16 rfl ?_
    refine V_iconst hC (2) kX5_throwFault_17 (by decide) ?_
    refine V_icmp_ne hC 32 kX5_throwFault_18 (by decide) (fun h18 => ?_) (fun h18 => ?_)
    · refine V_iload_n hC kX5_throwFault_32 rfl ?_
      refine V_iconst hC (3) kX5_throwFault_33 (by decide) ?_
      refine V_icmp_ne hC 48 kX5_throwFault_34 (by decide) (fun h34 => ?_) (fun h34 => ?_)
      · refine V_vretX hC rfl kX5_throwFault_48 ⟨(Nat.le_of_ble_eq_true rfl), (Nat.le_of_ble_eq_true rfl)⟩ ?_
        exact ⟨rfl, hk.resolve_right (fun z => z.elim h2 (fun z => z.elim h18 h34)), rfl⟩
      · refine V_thW hC hX (cls := "java/lang/IllegalStateException") (text := "there are too many, or nothing serves the boat") thc2 (by decide +kernel) rfl kX5_throwFault_37 kX5_throwFault_40 kX5_throwFault_41 kX5_throwFault_44 kX5_throwFault_47 ⟨(Nat.le_of_ble_eq_true rfl), (Nat.le_of_ble_eq_true rfl)⟩ ⟨(Nat.le_of_ble_eq_true rfl), (Nat.le_of_ble_eq_true rfl)⟩ ?_
        exact pX_of 3 h34 (by decide) eX3
    · refine V_thW hC hX (cls := "java/lang/IllegalArgumentException") (text := "an argument is out of its range") thc1 (by decide +kernel) rfl kX5_throwFault_21 kX5_throwFault_24 kX5_throwFault_25 kX5_throwFault_28 kX5_throwFault_31 ⟨(Nat.le_of_ble_eq_true rfl), (Nat.le_of_ble_eq_true rfl)⟩ ⟨(Nat.le_of_ble_eq_true rfl), (Nat.le_of_ble_eq_true rfl)⟩ ?_
      exact pX_of 2 h18 (by decide) eX2
  · refine V_thW hC hX (cls := "java/lang/IndexOutOfBoundsException") (text := "no such lighthouse, boat or place") thc3 (by decide +kernel) rfl kX5_throwFault_5 kX5_throwFault_8 kX5_throwFault_9 kX5_throwFault_12 kX5_throwFault_15 ⟨(Nat.le_of_ble_eq_true rfl), (Nat.le_of_ble_eq_true rfl)⟩ ⟨(Nat.le_of_ble_eq_true rfl), (Nat.le_of_ble_eq_true rfl)⟩ ?_
    exact pX_of 1 h2 (by decide) eX1

