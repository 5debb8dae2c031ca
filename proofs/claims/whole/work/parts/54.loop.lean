/-! the law's loop -/
theorem and31 (x : Int32) : ∃ q, q < 32 ∧ x &&& 31 = nI q := by
  refine ⟨(x.toBitVec &&& 31#32).toNat, ?_, ?_⟩
  · rw [BitVec.toNat_and]
    exact Nat.lt_of_le_of_lt Nat.and_le_right (by decide)
  · apply Int32.toBitVec_inj.mp
    show x.toBitVec &&& 31#32 = BitVec.ofNat 32 _
    rw [BitVec.ofNat_toNat, BitVec.setWidth_eq]
theorem lp_go {L i : Nat} (hL : L ≤ 3584) (hi : i ≤ 4000) (h : ¬ nI L - 7 < nI i) : i + 7 ≤ L := by
  have h1 : ¬ (nI L - 7).toInt < (nI i).toInt := fun z => h (Int32.lt_iff_toInt_lt.mpr z)
  have z7 : (7 : Int32).toInt = 7 := rfl
  have eL := nI_toInt (n := L) (by omega)
  have ei := nI_toInt (n := i) (by omega)
  have e := fb_subI (x := nI L) (y := 7) (by omega) (by omega)
  rw [e] at h1
  omega
section LOOP
variable {p : Program} {l : Launch} {e : Env} {s : State} {m : MethodId} {below : List Frame} {meth : Method} {c : Code} {w : Wd} {cs sl : Nat} {sg : Sg} {L : Nat} {xs : Nat → Int32}
set_option maxHeartbeats 4000000 in
set_option maxRecDepth 100000 in
theorem law_body {args : Array Value} {Q : State → Prop} (h : LC l p s m args meth c L xs w) {i n c' B : Nat} (hT : T2 0 331 n c' B sg) (hi : i + 7 ≤ L) (hB : 7260 ≤ B ∧ B ≤ 50000) (hcell : cs + 1 ≤ 601024 ∧ sl + 6 ≤ 7293034) (kk : ∀ w1 g3 n c', LC l p s m args meth c L xs w1 → T2 0 331 n c' (B + 60) g3 → V p l e (mRm mtL_law) s m args below meth c mtL_law w1 Q (cs + 1) (sl + 6) 1906 (lloc (nI i) none none) [] g3) : V p l e (mRm mtL_law) s m args below meth c mtL_law w Q cs sl 33 (lloc (nI i) none none) [] sg := by
  obtain ⟨hC, hX, hWr, hBs, hXs, hbl, hL, hl0⟩ := id h
  refine V_aload_n hC kL_law_33 rfl ?_
  refine V_iload hC kL_law_34 rfl ?_
  refine V_xald h kL_law_36 (vp_in_nI (by omega) (by omega)) ?_
  refine V_bipush hC (31) kL_law_37 (by decide) ?_
  refine V_iand hC kL_law_39 ?_
  obtain ⟨q, hq, eq⟩ := and31 (xs (nI i).toNatClampNeg)
  rw [eq]
  by_cases z0 : q = 0
  · subst z0
    exact V_tabIn hC (132) 172 kL_law_40 (by decide) (by decide) rfl (by decide) (cs_append h hT hi hB hcell kk)
  by_cases z1 : q = 1
  · subst z1
    exact V_tabIn hC (188) 228 kL_law_40 (by decide) (by decide) rfl (by decide) (cs_clearText h hT hi hB hcell kk)
  by_cases z2 : q = 2
  · subst z2
    exact V_tabIn hC (201) 241 kL_law_40 (by decide) (by decide) rfl (by decide) (cs_errorPosition h hT hi hB hcell kk)
  by_cases z3 : q = 3
  · subst z3
    exact V_tabIn hC (214) 254 kL_law_40 (by decide) (by decide) rfl (by decide) (cs_load h hT hi hB hcell kk)
  by_cases z4 : q = 4
  · subst z4
    exact V_tabIn hC (258) 298 kL_law_40 (by decide) (by decide) rfl (by decide) (cs_about h hT hi hB hcell kk)
  by_cases z5 : q = 5
  · subst z5
    exact V_tabIn hC (314) 354 kL_law_40 (by decide) (by decide) rfl (by decide) (cs_lightOf h hT hi hB hcell kk)
  by_cases z6 : q = 6
  · subst z6
    exact V_tabIn hC (382) 422 kL_law_40 (by decide) (by decide) rfl (by decide) (cs_boatOf h hT hi hB hcell kk)
  by_cases z7 : q = 7
  · subst z7
    exact V_tabIn hC (450) 490 kL_law_40 (by decide) (by decide) rfl (by decide) (cs_brightness h hT hi hB hcell kk)
  by_cases z8 : q = 8
  · subst z8
    exact V_tabIn hC (518) 558 kL_law_40 (by decide) (by decide) rfl (by decide) (cs_bestAt h hT hi hB hcell kk)
  by_cases z9 : q = 9
  · subst z9
    exact V_tabIn hC (586) 626 kL_law_40 (by decide) (by decide) rfl (by decide) (cs_setting h hT hi hB hcell kk)
  by_cases z10 : q = 10
  · subst z10
    exact V_tabIn hC (642) 682 kL_law_40 (by decide) (by decide) rfl (by decide) (cs_light h hT hi hB hcell kk)
  by_cases z11 : q = 11
  · subst z11
    exact V_tabIn hC (760) 800 kL_law_40 (by decide) (by decide) rfl (by decide) (cs_boat h hT hi hB hcell kk)
  by_cases z12 : q = 12
  · subst z12
    exact V_tabIn hC (828) 868 kL_law_40 (by decide) (by decide) rfl (by decide) (cs_steer h hT hi hB hcell kk)
  by_cases z13 : q = 13
  · subst z13
    exact V_tabIn hC (896) 936 kL_law_40 (by decide) (by decide) rfl (by decide) (cs_talk h hT hi hB hcell kk)
  by_cases z14 : q = 14
  · subst z14
    exact V_tabIn hC (964) 1004 kL_law_40 (by decide) (by decide) rfl (by decide) (cs_lean h hT hi hB hcell kk)
  by_cases z15 : q = 15
  · subst z15
    exact V_tabIn hC (1032) 1072 kL_law_40 (by decide) (by decide) rfl (by decide) (cs_dim h hT hi hB hcell kk)
  by_cases z16 : q = 16
  · subst z16
    exact V_tabIn hC (1100) 1140 kL_law_40 (by decide) (by decide) rfl (by decide) (cs_set h hT hi hB hcell kk)
  by_cases z17 : q = 17
  · subst z17
    exact V_tabIn hC (1168) 1208 kL_law_40 (by decide) (by decide) rfl (by decide) (cs_ticks h hT hi hB hcell kk)
  by_cases z18 : q = 18
  · subst z18
    exact V_tabIn hC (1224) 1264 kL_law_40 (by decide) (by decide) rfl (by decide) (cs_undo h hT hi hB hcell kk)
  by_cases z19 : q = 19
  · subst z19
    exact V_tabIn hC (1268) 1308 kL_law_40 (by decide) (by decide) rfl (by decide) (cs_handedIn h hT hi hB hcell kk)
  by_cases z20 : q = 20
  · subst z20
    exact V_tabIn hC (1336) 1376 kL_law_40 (by decide) (by decide) rfl (by decide) (cs_ifMargin h hT hi hB hcell kk)
  by_cases z21 : q = 21
  · subst z21
    exact V_tabIn hC (1416) 1456 kL_law_40 (by decide) (by decide) rfl (by decide) (cs_bestMargin h hT hi hB hcell kk)
  by_cases z22 : q = 22
  · subst z22
    exact V_tabIn hC (1472) 1512 kL_law_40 (by decide) (by decide) rfl (by decide) (cs_dark h hT hi hB hcell kk)
  by_cases z23 : q = 23
  · subst z23
    exact V_tabIn hC (1485) 1525 kL_law_40 (by decide) (by decide) rfl (by decide) (cs_border h hT hi hB hcell kk)
  by_cases z24 : q = 24
  · subst z24
    exact V_tabIn hC (1541) 1581 kL_law_40 (by decide) (by decide) rfl (by decide) (cs_room h hT hi hB hcell kk)
  by_cases z25 : q = 25
  · subst z25
    exact V_tabIn hC (1554) 1594 kL_law_40 (by decide) (by decide) rfl (by decide) (cs_runScript h hT hi hB hcell kk)
  by_cases z26 : q = 26
  · subst z26
    exact V_tabIn hC (1654) 1694 kL_law_40 (by decide) (by decide) rfl (by decide) (cs_simulate h hT hi hB hcell kk)
  by_cases z27 : q = 27
  · subst z27
    exact V_tabIn hC (1754) 1794 kL_law_40 (by decide) (by decide) rfl (by decide) (cs_save h hT hi hB hcell kk)
  by_cases z28 : q = 28
  · subst z28
    exact V_tabIn hC (1810) 1850 kL_law_40 (by decide) (by decide) rfl (by decide) (cs_restore h hT hi hB hcell kk)
  have hz : (28 : Int) < (nI q).toInt := by
    rw [nI_toInt (by omega)]
    omega
  exact V_tabOut hC 1906 kL_law_40 (Or.inr hz) (by decide) (V_wd ⟨Nat.le_succ _, Nat.le_add_right _ _⟩ (kk _ _ _ _ h (hT.le (by omega))))
set_option maxHeartbeats 4000000 in
set_option maxRecDepth 100000 in
theorem law_step {b : Nat} {j n c' : Nat} (hj : j ≤ 512) (h : LC l p s m #[Value.ref b] meth c L xs w) (hT : T2 0 331 n c' (7260 + 60 * j) sg) (ih : 7 * j + 7 ≤ L → ∀ w1 g3 n c', LC l p s m #[Value.ref b] meth c L xs w1 → T2 0 331 n c' (7260 + 60 * (j + 1)) g3 → V p l e (mRm mtL_law) s m #[Value.ref b] below meth c mtL_law w1 (lw_Z below #[Value.ref b] s) (340 + (j + 1)) (5897 + 6 * (j + 1)) 23 (lloc (nI (7 * (j + 1))) none none) [] g3) : V p l e (mRm mtL_law) s m #[Value.ref b] below meth c mtL_law w (lw_Z below #[Value.ref b] s) (340 + j) (5897 + 6 * j) 23 (lloc (nI (7 * j)) none none) [] sg := by
  obtain ⟨hC, hX, hWr, hBs, hXs, hbl, hL, hl0⟩ := id h
  refine V_iload hC kL_law_23 rfl ?_
  refine V_aload_n hC kL_law_25 rfl ?_
  refine V_xlen h kL_law_26 ?_
  refine V_bipush hC (7) kL_law_27 (by decide) ?_
  refine V_isub hC kL_law_29 ?_
  refine V_icmp_gt hC 1912 kL_law_30 (by decide) (fun _ => ?_) (fun hz => ?_)
  · refine V_iconst hC (1) kL_law_1912 (by decide) ?_
    exact V_lawret hC hBs kL_law_1913 ⟨by omega, by omega⟩
  · have hi := lp_go hL (by omega) hz
    refine law_body h hT hi ⟨by omega, by omega⟩ ⟨by omega, by omega⟩ (fun w1 g3 n3 c3 h1 hT3 => ?_)
    refine V_iinc h1.1 (nI (7 * (j + 1))) (lloc (nI (7 * (j + 1))) none none) kL_law_1906 rfl (by show nI (7 * j) + nI 7 = nI (7 * (j + 1)); rw [nI_add]; rfl) rfl (Nat.le_of_ble_eq_true rfl) ?_
    refine V_goto h1.1 23 kL_law_1909 (by decide) ?_
    exact V_wd ⟨Nat.le_of_eq (by omega), Nat.le_of_eq (by omega)⟩ (ih hi w1 g3 n3 c3 h1 (hT3.le (by omega)))
theorem law_loop {b : Nat} : ∀ (r j : Nat) (w : Wd) (sg : Sg) (n c' : Nat), j + r = 512 → LC l p s m #[Value.ref b] meth c L xs w → T2 0 331 n c' (7260 + 60 * j) sg → V p l e (mRm mtL_law) s m #[Value.ref b] below meth c mtL_law w (lw_Z below #[Value.ref b] s) (340 + j) (5897 + 6 * j) 23 (lloc (nI (7 * j)) none none) [] sg
  | 0, j, w, sg, n, c', hj, h, hT => law_step (by omega) h hT (fun hi => by
    have := h.2.2.2.2.2.2.1
    omega)
  | r + 1, j, w, sg, n, c', hj, h, hT => law_step (by omega) h hT (fun _ w1 g3 n3 c3 h1 hT3 => law_loop r (j + 1) w1 g3 n3 c3 (by omega) h1 hT3)
end LOOP
