/-! constructors: the memory, the boats -/
def MB (w : Wd) (y : Nat) : Prop := wK w y = (3, 0) ∧ wK w (y + 1) = (16, 14) ∧ (∀ j, j < 14 → CB w (y + 2 + 18 * j)) ∧ wK w (y + 254) = (16, 2) ∧ ∀ j, j < 2 → CB w (y + 255 + 18 * j)
theorem MB.wr {w : Wd} {y : Nat} (h : MB w y) (hy : y + 291 ≤ wN w) : ∀ i, i < 291 → WrAt w (y + i) := by
  intro i hi
  obtain ⟨h1, h2, h3, h4, h5⟩ := h
  by_cases z : i = 0
  · subst z
    refine WrAt.obj h1 (by decide) (fun j q e => ?_)
    rcases rf3_in e with ⟨-, rfl⟩ | ⟨-, rfl⟩
    · exact okr_of (by decide) (by omega) h2
    · exact okr_of (by decide) (by omega) h4
  by_cases z1 : i = 1
  · subst z1
    refine WrAt.row h2 (by decide) (fun j q hj e => ?_)
    obtain rfl : (1, 0, y + 1 + 1 + 18 * j) = q := Option.some.inj e
    exact okr_of (by decide) (by omega) (h3 j hj 0 (by decide))
  by_cases z2 : i < 254
  · have h9 := (h3 ((i - 2) / 18) (by omega)).wr (by omega) ((i - 2) % 18) (by omega)
    rw [show y + 2 + 18 * ((i - 2) / 18) + (i - 2) % 18 = y + i by omega] at h9
    exact h9
  by_cases z3 : i = 254
  · subst z3
    refine WrAt.row h4 (by decide) (fun j q hj e => ?_)
    obtain rfl : (1, 0, y + 254 + 1 + 18 * j) = q := Option.some.inj e
    exact okr_of (by decide) (by omega) (h5 j hj 0 (by decide))
  have h9 := (h5 ((i - 255) / 18) (by omega)).wr (by omega) ((i - 255) % 18) (by omega)
  rw [show y + 255 + 18 * ((i - 255) / 18) + (i - 255) % 18 = y + i by omega] at h9
  exact h9
def M1 (w0 : Wd) (a y : Nat) (sg : Sg) (i : Nat) (w : Wd) (sg' : Sg) : Prop := Ext w0 w (2 + 18 * i) ∧ Wr w ∧ wN w = y + 2 + 18 * i ∧ wK w y = (53, 0) ∧ wK w (y + 1) = (66, 14) ∧ (∀ j, j < i → CB w (y + 2 + 18 * j)) ∧ wR w y 0 = some (66, 14, y + 1) ∧ (∀ j, j < i → wR w (y + 1) j = some (1, 0, y + 2 + 18 * j)) ∧ wA w y = a ∧ (∀ k, k ≤ y → sg' k = sg k) ∧ ∀ j, j < i → Bt sg' (y + 2 + 18 * j)
def M2 (w0 : Wd) (a y : Nat) (sg : Sg) (i : Nat) (w : Wd) (sg' : Sg) : Prop := Ext w0 w (255 + 18 * i) ∧ Wr w ∧ wN w = y + 255 + 18 * i ∧ wK w y = (53, 0) ∧ wK w (y + 1) = (66, 14) ∧ (∀ j, j < 14 → CB w (y + 2 + 18 * j)) ∧ wK w (y + 254) = (66, 2) ∧ (∀ j, j < i → CB w (y + 255 + 18 * j)) ∧ wR w y 0 = some (66, 14, y + 1) ∧ wR w y 1 = some (66, 2, y + 254) ∧ (∀ j, j < 14 → wR w (y + 1) j = some (1, 0, y + 2 + 18 * j)) ∧ (∀ j, j < i → wR w (y + 254) j = some (1, 0, y + 255 + 18 * j)) ∧ wA w y = a ∧ (∀ k, k ≤ y → sg' k = sg k) ∧ (∀ j, j < 14 → Bt sg' (y + 2 + 18 * j)) ∧ ∀ j, j < i → Bt sg' (y + 255 + 18 * j)
theorem CB.setR {w : Wd} {c k j : Nat} {r : Option (Nat × Nat × Nat)} (h : CB w c) : CB (wsetR w k j r) c := h
theorem pA_o {w : Wd} {a : Nat} {q : Nat × Nat} {k : Nat} (h : k < wN w) : wA (wpush w a q) k = wA w k := if_neg (Nat.ne_of_lt h)
theorem pA_n {w : Wd} {a : Nat} {q : Nat × Nat} {k : Nat} (h : k = wN w) : wA (wpush w a q) k = a := if_pos h
theorem Ext.cast {w w' : Wd} {n m : Nat} (h : Ext w w' n) (e : n = m) : Ext w w' m := e ▸ h
theorem Ext.rr {w w' : Wd} {n k j : Nat} {q : Option (Nat × Nat × Nat)} (h : Ext w w' n) (hk : k < wN w) (h2 : wR w k j = q) : wR w' k j = q := (congrFun (h.r hk) j).trans h2
set_option maxHeartbeats 8000000 in
set_option maxRecDepth 100000 in
/-- a memory -/
theorem cn_mem {l : Launch} {w0 : Wd} {sg : Sg} {a y : Nat} (hW0 : Wr w0) (hc : wN w0 = y) (hc2 : y < 900000) : MN l mtX3_init (wpush w0 a (53, 0)) [vR (some (53, 0, y))] sg (fun w' sg' => Ext w0 w' 291 ∧ Wr w' ∧ MB w' y ∧ wA w' y = a ∧ (∀ k, k ≤ y → sg' k = sg k) ∧ (∀ j, j < 14 → Bt sg' (y + 2 + 18 * j)) ∧ ∀ j, j < 2 → Bt sg' (y + 255 + 18 * j)) := by
  refine MN_of [some (vR (some (53, 0, y))), none] rfl (Nat.le_of_ble_eq_true rfl) (by decide +kernel) rfl ?_
  intro p_ e_ s_ m_ args_ below_ meth_ c_ hC hin hB hO
  have hC0 := Cx_back (by omega) hC
  have hB0 : wB w0 ≤ s_.heap.size := hB
  have E1 : Ext w0 (wpush w0 a (53, 0)) 1 := Ext.push (by omega) a (53, 0)
  have W1 : Wr (wpush w0 a (53, 0)) := hW0.push (by omega) a ⟨fun z => absurd z (by decide), by decide⟩
  have K1 : wK (wpush w0 a (53, 0)) y = (53, 0) := pK_n hc.symm
  have A1 : wA (wpush w0 a (53, 0)) y = a := pA_n hc.symm
  have n1 : wN (wpush w0 a (53, 0)) = y + 1 := congrArg (· + 1) hc
  generalize wpush w0 a (53, 0) = w1 at hC hB hO E1 W1 K1 A1 n1 ⊢
  refine V_aload_n hC kX3_init_0 rfl ?_
  refine V_objI hC loX3 oi_ kX3_init_1 ⟨(Nat.le_of_ble_eq_true rfl), (Nat.le_of_ble_eq_true rfl)⟩ ?_
  refine V_aload_n hC kX3_init_4 rfl ?_
  refine V_bipush hC 14 kX3_init_5 (by decide) ?_
  refine V_newQ hC W1 hB (by omega) 16 14 (by decide) lkX3_9 (by decide) rfl (by decide) kX3_init_7 ⟨(Nat.le_of_ble_eq_true rfl), (Nat.le_of_ble_eq_true rfl)⟩ (fun a2 => ?_)
  rw [n1]
  have E2 : Ext w0 (wpush w1 a2 (50 + 16, 14)) 2 := E1.psh (by omega) a2 _
  have W2 : Wr (wpush w1 a2 (50 + 16, 14)) := W1.push (by omega) a2 ⟨fun z => absurd z (by decide), by decide⟩
  have K2 : wK (wpush w1 a2 (50 + 16, 14)) y = (53, 0) := (pK_o (by omega)).trans K1
  have K2a : wK (wpush w1 a2 (50 + 16, 14)) (y + 1) = (66, 14) := pK_n n1.symm
  have A2 : wA (wpush w1 a2 (50 + 16, 14)) y = a := (pA_o (by omega)).trans A1
  have n2 : wN (wpush w1 a2 (50 + 16, 14)) = y + 2 := congrArg (· + 1) n1
  generalize wpush w1 a2 (50 + 16, 14) = w2 at E2 W2 K2 K2a A2 n2 ⊢
  refine V_putRF (Cx_ext hC0 E2) hin 3 0 lgX3_11 kX3_init_10 (by decide) (by decide) rfl ⟨rfl, rfl⟩ (fun _ => ⟨rfl, rfl⟩) ?_
  have E3 : Ext w0 (wsetR w2 y 0 (some (66, 14, y + 1))) 2 := E2.setR (by omega) 0 _
  have H1 : M1 w0 a y sg 0 (wsetR w2 y 0 (some (66, 14, y + 1))) (upr sg (y + 1) (fun _ => 0)) := ⟨E3, W2.setR (okr_of (by decide) (by omega) K2a), n2, K2, K2a, fun j hj => absurd hj (Nat.not_lt_zero _), wsetR_at _ _ _ _, fun j hj => absurd hj (Nat.not_lt_zero _), A2, fun k hk => upr_ne _ _ (by omega), fun j hj => absurd hj (Nat.not_lt_zero _)⟩
  refine V_iconst (Cx_ext hC0 E3) (0) kX3_init_13 (by decide) ?_
  refine V_istore_n (Cx_ext hC0 E3) [some _, some _] kX3_init_14 rfl (Nat.le_of_ble_eq_true rfl) ?_
  refine V_loopW 14 (M1 w0 a y sg) (fun i => 1 + 18 * i) (fun i => 14 + 171 * i) (fun i => [some (vR (some (53, 0, y))), some (vI (nI i))]) rfl ⟨rfl, rfl⟩ H1 (fun w6 sg6 hI => ?_) (fun i w' sg' hi hI ih => ?_)
  · obtain ⟨E, W, n6, k0, k1, k2, r0, r1, ra, sm, sb⟩ := hI
    have hC6 := Cx_ext hC0 E
    refine V_iload_n hC6 kX3_init_15 rfl ?_
    refine V_aload_n hC6 kX3_init_16 rfl ?_
    refine V_getRw hC6 3 0 lgX3_11 kX3_init_17 (by decide) (by decide) rfl r0 (okr_of (by decide) (by omega) k1) ?_
    refine V_alenw hC6 (kd := 16) 14 kX3_init_20 (by decide) rfl ?_
    refine V_icmp_ge hC6 43 kX3_init_21 (by decide) (fun _ => ?_) (fun h => absurd (show (14 : Int32) ≤ nI 14 by decide) h)
    refine V_aload_n hC6 kX3_init_43 rfl ?_
    refine V_iconst hC6 (2) kX3_init_44 (by decide) ?_
    refine V_newQ hC6 W (by rw [E.b]; exact hB0) (by omega) 16 2 (by decide) lkX3_9 (by decide) rfl (by decide) kX3_init_45 ⟨(Nat.le_of_ble_eq_true rfl), (Nat.le_of_ble_eq_true rfl)⟩ (fun a3 => ?_)
    rw [show wN w6 = y + 254 from n6]
    have F2 : Ext w0 (wpush w6 a3 (50 + 16, 2)) 255 := E.psh (by omega) a3 _
    have X2 : Wr (wpush w6 a3 (50 + 16, 2)) := W.push (by omega) a3 ⟨fun z => absurd z (by decide), by decide⟩
    have g0 : wK (wpush w6 a3 (50 + 16, 2)) y = (53, 0) := (pK_o (by omega)).trans k0
    have g1 : wK (wpush w6 a3 (50 + 16, 2)) (y + 1) = (66, 14) := (pK_o (by omega)).trans k1
    have g2 : ∀ j, j < 14 → CB (wpush w6 a3 (50 + 16, 2)) (y + 2 + 18 * j) := fun j hj => (k2 j hj).push (by omega)
    have g3 : wK (wpush w6 a3 (50 + 16, 2)) (y + 254) = (66, 2) := pK_n n6.symm
    have g4 : wR (wpush w6 a3 (50 + 16, 2)) y 0 = some (66, 14, y + 1) := pR_r (by omega) r0
    have g5 : ∀ j, j < 14 → wR (wpush w6 a3 (50 + 16, 2)) (y + 1) j = some (1, 0, y + 2 + 18 * j) := fun j hj => pR_r (by omega) (r1 j hj)
    have g6 : wA (wpush w6 a3 (50 + 16, 2)) y = a := (pA_o (by omega)).trans ra
    have n7 : wN (wpush w6 a3 (50 + 16, 2)) = y + 255 := congrArg (· + 1) n6
    generalize wpush w6 a3 (50 + 16, 2) = w7 at F2 X2 g0 g1 g2 g3 g4 g5 g6 n7 ⊢
    refine V_putRF (Cx_ext hC0 F2) hin 3 1 lgX3_16 kX3_init_48 (by decide) (by decide) rfl ⟨rfl, rfl⟩ (fun _ => ⟨rfl, rfl⟩) ?_
    have F3 : Ext w0 (wsetR w7 y 1 (some (66, 2, y + 254))) 255 := F2.setR (by omega) 1 _
    have H2 : M2 w0 a y sg 0 (wsetR w7 y 1 (some (66, 2, y + 254))) (upr sg6 (y + 254) (fun _ => 0)) := ⟨F3, X2.setR (okr_of (by decide) (by omega) g3), n7, g0, g1, g2, g3, fun j hj => absurd hj (Nat.not_lt_zero _), sR_r (Or.inr (by decide)) g4, wsetR_at _ _ _ _, fun j hj => sR_r (Or.inl (by omega)) (g5 j hj), fun j hj => absurd hj (Nat.not_lt_zero _), g6, fun k hk => (upr_ne _ _ (by omega)).trans (sm k hk), fun j hj => (sb j hj).fr (fun k h1 h2 => upr_ne _ _ (by omega)), fun j hj => absurd hj (Nat.not_lt_zero _)⟩
    refine V_iconst (Cx_ext hC0 F3) (0) kX3_init_51 (by decide) ?_
    refine V_istore_n (Cx_ext hC0 F3) [some _, some _] kX3_init_52 rfl (Nat.le_of_ble_eq_true rfl) ?_
    refine V_loopW 2 (M2 w0 a y sg) (fun i => 254 + 18 * i) (fun i => 2410 + 171 * i) (fun i => [some (vR (some (53, 0, y))), some (vI (nI i))]) rfl ⟨rfl, rfl⟩ H2 (fun w8 sg8 hI => ?_) (fun i w' sg' hi hI ih => ?_)
    · obtain ⟨E, W, n8, k0, k1, k2, k3, k4, r0, r1, r2, r3, ra, sm, sb, sc⟩ := hI
      have hC8 := Cx_ext hC0 E
      refine V_iload_n hC8 kX3_init_53 rfl ?_
      refine V_aload_n hC8 kX3_init_54 rfl ?_
      refine V_getRw hC8 3 1 lgX3_16 kX3_init_55 (by decide) (by decide) rfl r1 (okr_of (by decide) (by omega) k3) ?_
      refine V_alenw hC8 (kd := 16) 2 kX3_init_58 (by decide) rfl ?_
      refine V_icmp_ge hC8 81 kX3_init_59 (by decide) (fun _ => ?_) (fun h => absurd (show (2 : Int32) ≤ nI 2 by decide) h)
      obtain ⟨K, hK⟩ : ∃ K : Nat → Nat × Nat, K = fun k => if k = y then (3, 0) else if k = y + 1 then (16, 14) else if k = y + 254 then (16, 2) else wK w8 k := ⟨_, rfl⟩
      have Ko : ∀ k, k ≠ y → k ≠ y + 1 → k ≠ y + 254 → K k = wK w8 k := fun k h1 h2 h3 => by
        rw [hK]
        show (if k = y then _ else _) = _
        rw [if_neg h1, if_neg h2, if_neg h3]
      have K0 : K y = (3, 0) := by rw [hK]; exact if_pos rfl
      have Ka : K (y + 1) = (16, 14) := by
        rw [hK]
        show (if y + 1 = y then _ else _) = _
        rw [if_neg (by omega), if_pos rfl]
      have Kb : K (y + 254) = (16, 2) := by
        rw [hK]
        show (if y + 254 = y then _ else _) = _
        rw [if_neg (by omega), if_neg (by omega), if_pos rfl]
      have G4 : Ext w0 (wkind w8 K) 291 := E.kind (fun k hk => Ko k (by omega) (by omega) (by omega))
      have B4 : MB (wkind w8 K) y := ⟨K0, Ka, fun j hj i hi => (Ko _ (by omega) (by omega) (by omega)).trans (k2 j hj i hi), Kb, fun j hj i hi => (Ko _ (by omega) (by omega) (by omega)).trans (k4 j hj i hi)⟩
      have n9 : wN (wkind w8 K) = y + 291 := n8
      have W4 : Wr (wkind w8 K) := hW0.blk G4 (by rw [hc]; exact B4.wr (Nat.le_of_eq n9.symm))
      refine V_re (w' := wkind w8 K) (loc' := [none, none]) (st' := []) (fun H hP => Wp_re (w := w8) (w' := wkind w8 K) rfl rfl rfl (fun _ _ => rfl) (fun k hk => ?_) hP) rfl trivial trivial ?_
      · by_cases z0 : k = y
        · subst z0
          refine eE_obj (ci := 3) k0 K0 (by decide) (fun j q e => ?_)
          rcases rf3_in e with ⟨rfl, rfl⟩ | ⟨rfl, rfl⟩
          · exact ⟨_, _, r0⟩
          · exact ⟨_, _, r1⟩
        by_cases z2 : k = y + 1
        · subst z2
          exact eE_row (kd := 16) k1 Ka (by decide) (fun j hj => ⟨_, _, _, rfl, r2 j hj⟩)
        by_cases z3 : k = y + 254
        · subst z3
          exact eE_row (kd := 16) k3 Kb (by decide) (fun j hj => ⟨_, _, _, rfl, r3 j hj⟩)
        exact eE_same (Ko k z0 z2 z3)
      · refine V_vretN (Cx_ext hC0 G4) (by rw [G4.b, E1.b]) rfl kX3_init_81 ⟨(Nat.le_of_ble_eq_true rfl), (Nat.le_of_ble_eq_true rfl)⟩ ?_
        exact ⟨G4, W4, B4, ra, sm, sb, sc⟩
    · obtain ⟨E, W, n', k0, k1, k2, k3, k4, r0, r1, r2, r3, ra, sm, sb, sc⟩ := hI
      have hC' := Cx_ext hC0 E
      refine V_iload_n hC' kX3_init_53 rfl ?_
      refine V_aload_n hC' kX3_init_54 rfl ?_
      refine V_getRw hC' 3 1 lgX3_16 kX3_init_55 (by decide) (by decide) rfl r1 (okr_of (by decide) (by omega) k3) ?_
      refine V_alenw hC' (kd := 16) 2 kX3_init_58 (by decide) rfl ?_
      refine V_icmp_ge hC' 81 kX3_init_59 (by decide) (fun h => absurd h (by exact nI_ge (b := 2) hi (by decide))) (fun _ => ?_)
      refine V_aload_n hC' kX3_init_62 rfl ?_
      refine V_getRw hC' 3 1 lgX3_16 kX3_init_63 (by decide) (by decide) rfl r1 (okr_of (by decide) (by omega) k3) ?_
      refine V_iload_n hC' kX3_init_66 rfl ?_
      refine V_new hC' W (by rw [E.b]; exact hB0) (by omega) 1 51 (Or.inl rfl) (by decide) lkX3_9 ni1 kX3_init_67 ⟨by show 254 + 18 * i + 1 ≤ 290; omega, by show 2410 + 171 * i + 11 ≤ 2752; omega⟩ (fun a5 => ?_)
      rw [n']
      have E5 : Ext w0 (wpush w' a5 (51, 0)) (255 + 18 * i + 1) := E.psh (by omega) a5 (51, 0)
      have hC5 := Cx_ext hC0 E5
      refine V_dup hC5 kX3_init_70 rfl ?_
      refine V_invI [some (vR (some (53, 0, y))), some (vI (nI i))] [vR (some (1, 0, y + 255 + 18 * i)), vI (nI i), vR (some (50 + 16, 2, y + 254))] hC5 (by rw [E5.b]; exact hB0) (cn_coast (a := a5) W n' (by omega)) miX1_init rfl rfl lmX3_15 kX3_init_71 rfl rfl (Nat.le_of_ble_eq_true rfl) ⟨(Nat.le_of_ble_eq_true rfl), (Nat.le_of_ble_eq_true rfl)⟩ ⟨by show 254 + 18 * i + 1 + 17 ≤ 290; omega, by show 2410 + 171 * i + 11 + 160 ≤ 2752; omega⟩ (fun w2 sg2 h => ?_) (fun w2 sg2 h => ?_)
      · obtain ⟨F, X2, B2, A2, S2, R2⟩ := h
        exact ⟨F.b, ⟨Vm.r ((F.a (by omega)).trans (pA_o (by omega)).symm) (fun _ => okr_of (by decide) (by have := F.n; omega) ((F.k (by omega)).trans k0)), Vm.i _ _ _, trivial⟩, ⟨Vm.r (A2.trans (pA_n n'.symm).symm) (fun _ => okr_of (by decide) (by have := F.n; omega) (B2 0 (by decide))), Vm.i _ _ _, Vm.r ((F.a (by omega)).trans (pA_o (by omega)).symm) (fun _ => okr_of (by decide) (by have := F.n; omega) ((F.k (by omega)).trans k3)), trivial⟩⟩
      · obtain ⟨F, X2, B2, A2, S2, R2⟩ := h
        have E6 : Ext w0 w2 (255 + 18 * (i + 1)) := (E.tr F).cast (by omega)
        have n2 : wN w2 = y + 255 + 18 * (i + 1) := by have := F.n; omega
        refine V_aastw (Cx_ext hC0 E6) (kd := 16) i (nI_clamp (by omega)) kX3_init_74 (by decide) (by decide) rfl (vp_in_nI hi (by decide)) ?_
        have E7 := E6.setR (k := y + 254) (by omega) i (some (1, 0, y + 255 + 18 * i))
        refine V_iinc (Cx_ext hC0 E7) (nI (i + 1)) [some _, some _] kX3_init_75 rfl (nI_succ i).symm rfl (Nat.le_of_ble_eq_true rfl) ?_
        refine V_goto (Cx_ext hC0 E7) 53 kX3_init_78 (by decide) ?_
        refine V_wd (k := 254 + 18 * (i + 1)) (n := 2410 + 171 * (i + 1)) ⟨by show 254 + 18 * i + 1 + 17 ≤ _; omega, by show 2410 + 171 * i + 11 + 160 ≤ _; omega⟩ (ih _ _ ⟨E7, X2.setR (okr_of (by decide) (by omega) (B2 0 (by decide))), n2, (F.k (by omega)).trans k0, (F.k (by omega)).trans k1, fun j hj => CB.setR ((k2 j hj).ext F (by omega)), (F.k (by omega)).trans k3, fun j hj => ?_, sR_r (Or.inl (by omega)) (F.rr (by omega) r0), sR_r (Or.inl (by omega)) (F.rr (by omega) r1), fun j hj => sR_r (Or.inl (by omega)) (F.rr (by omega) (r2 j hj)), fun j hj => ?_, (F.a (by omega)).trans ra, fun k hk => (S2 k (by omega)).trans ((upr_ne _ _ (by omega)).trans (sm k hk)), fun j hj => (sb j hj).fr (fun k h1 h2 => (S2 k (by omega)).trans (upr_ne _ _ (by omega))), fun j hj => ?_⟩)
        · rcases Nat.lt_or_ge j i with z | z
          · exact CB.setR ((k4 j z).ext F (by omega))
          · obtain rfl : j = i := by omega
            exact B2
        · rcases Nat.lt_or_ge j i with z | z
          · exact sR_r (Or.inr (by omega)) (F.rr (by omega) (r3 j z))
          · obtain rfl : j = i := by omega
            exact wsetR_at _ _ _ _
        · rcases Nat.lt_or_ge j i with z | z
          · exact (sc j z).fr (fun k h1 h2 => (S2 k (by omega)).trans (upr_ne _ _ (by omega)))
          · obtain rfl : j = i := by omega
            exact R2.2.2.2.2
  · obtain ⟨E, W, n', k0, k1, k2, r0, r1, ra, sm, sb⟩ := hI
    have hC' := Cx_ext hC0 E
    refine V_iload_n hC' kX3_init_15 rfl ?_
    refine V_aload_n hC' kX3_init_16 rfl ?_
    refine V_getRw hC' 3 0 lgX3_11 kX3_init_17 (by decide) (by decide) rfl r0 (okr_of (by decide) (by omega) k1) ?_
    refine V_alenw hC' (kd := 16) 14 kX3_init_20 (by decide) rfl ?_
    refine V_icmp_ge hC' 43 kX3_init_21 (by decide) (fun h => absurd h (by exact nI_ge (b := 14) hi (by decide))) (fun _ => ?_)
    refine V_aload_n hC' kX3_init_24 rfl ?_
    refine V_getRw hC' 3 0 lgX3_11 kX3_init_25 (by decide) (by decide) rfl r0 (okr_of (by decide) (by omega) k1) ?_
    refine V_iload_n hC' kX3_init_28 rfl ?_
    refine V_new hC' W (by rw [E.b]; exact hB0) (by omega) 1 51 (Or.inl rfl) (by decide) lkX3_9 ni1 kX3_init_29 ⟨by show 1 + 18 * i + 1 ≤ 290; omega, by show 14 + 171 * i + 11 ≤ 2752; omega⟩ (fun a5 => ?_)
    rw [n']
    have E5 : Ext w0 (wpush w' a5 (51, 0)) (2 + 18 * i + 1) := E.psh (by omega) a5 (51, 0)
    have hC5 := Cx_ext hC0 E5
    refine V_dup hC5 kX3_init_32 rfl ?_
    refine V_invI [some (vR (some (53, 0, y))), some (vI (nI i))] [vR (some (1, 0, y + 2 + 18 * i)), vI (nI i), vR (some (50 + 16, 14, y + 1))] hC5 (by rw [E5.b]; exact hB0) (cn_coast (a := a5) W n' (by omega)) miX1_init rfl rfl lmX3_15 kX3_init_33 rfl rfl (Nat.le_of_ble_eq_true rfl) ⟨(Nat.le_of_ble_eq_true rfl), (Nat.le_of_ble_eq_true rfl)⟩ ⟨by show 1 + 18 * i + 1 + 17 ≤ 290; omega, by show 14 + 171 * i + 11 + 160 ≤ 2752; omega⟩ (fun w2 sg2 h => ?_) (fun w2 sg2 h => ?_)
    · obtain ⟨F, X2, B2, A2, S2, R2⟩ := h
      exact ⟨F.b, ⟨Vm.r ((F.a (by omega)).trans (pA_o (by omega)).symm) (fun _ => okr_of (by decide) (by have := F.n; omega) ((F.k (by omega)).trans k0)), Vm.i _ _ _, trivial⟩, ⟨Vm.r (A2.trans (pA_n n'.symm).symm) (fun _ => okr_of (by decide) (by have := F.n; omega) (B2 0 (by decide))), Vm.i _ _ _, Vm.r ((F.a (by omega)).trans (pA_o (by omega)).symm) (fun _ => okr_of (by decide) (by have := F.n; omega) ((F.k (by omega)).trans k1)), trivial⟩⟩
    · obtain ⟨F, X2, B2, A2, S2, R2⟩ := h
      have E6 : Ext w0 w2 (2 + 18 * (i + 1)) := (E.tr F).cast (by omega)
      have n2 : wN w2 = y + 2 + 18 * (i + 1) := by have := F.n; omega
      refine V_aastw (Cx_ext hC0 E6) (kd := 16) i (nI_clamp (by omega)) kX3_init_36 (by decide) (by decide) rfl (vp_in_nI hi (by decide)) ?_
      have E7 := E6.setR (k := y + 1) (by omega) i (some (1, 0, y + 2 + 18 * i))
      refine V_iinc (Cx_ext hC0 E7) (nI (i + 1)) [some _, some _] kX3_init_37 rfl (nI_succ i).symm rfl (Nat.le_of_ble_eq_true rfl) ?_
      refine V_goto (Cx_ext hC0 E7) 15 kX3_init_40 (by decide) ?_
      refine V_wd (k := 1 + 18 * (i + 1)) (n := 14 + 171 * (i + 1)) ⟨by show 1 + 18 * i + 1 + 17 ≤ _; omega, by show 14 + 171 * i + 11 + 160 ≤ _; omega⟩ (ih _ _ ⟨E7, X2.setR (okr_of (by decide) (by omega) (B2 0 (by decide))), n2, (F.k (by omega)).trans k0, (F.k (by omega)).trans k1, fun j hj => ?_, sR_r (Or.inl (by omega)) (F.rr (by omega) r0), fun j hj => ?_, (F.a (by omega)).trans ra, fun k hk => (S2 k (by omega)).trans ((upr_ne _ _ (by omega)).trans (sm k hk)), fun j hj => ?_⟩)
      · rcases Nat.lt_or_ge j i with z | z
        · exact CB.setR ((k2 j z).ext F (by omega))
        · obtain rfl : j = i := by omega
          exact B2
      · rcases Nat.lt_or_ge j i with z | z
        · exact sR_r (Or.inr (by omega)) (F.rr (by omega) (r1 j z))
        · obtain rfl : j = i := by omega
          exact wsetR_at _ _ _ _
      · rcases Nat.lt_or_ge j i with z | z
        · exact (sb j z).fr (fun k h1 h2 => (S2 k (by omega)).trans (upr_ne _ _ (by omega)))
        · obtain rfl : j = i := by omega
          exact R2.2.2.2.2

