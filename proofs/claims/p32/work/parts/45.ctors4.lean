/-! constructors: the boats -/
theorem MB.ext {w w' : Wd} {n y : Nat} (h : MB w y) (E : Ext w w' n) (hy : y + 291 ≤ wN w) : MB w' y := ⟨(E.k (by omega)).trans h.1, (E.k (by omega)).trans h.2.1, fun j hj => (h.2.2.1 j hj).ext E (by omega), (E.k (by omega)).trans h.2.2.2.1, fun j hj => (h.2.2.2.2 j hj).ext E (by omega)⟩
theorem TB.setR {w : Wd} {c k j : Nat} {r : Option (Nat × Nat × Nat)} (h : TB w c) : TB (wsetR w k j r) c := h
set_option maxHeartbeats 8000000 in
set_option maxRecDepth 100000 in
/-- the boats -/
theorem cn_boats {l : Launch} {w0 : Wd} {sg : Sg} {a x : Nat} (hW0 : Wr w0) (hc : wN w0 = x) (hc2 : x < 800000) : MN l mtX5_init (wpush w0 a (55, 0)) [vR (some (55, 0, x))] sg (fun w' sg' => Ext w0 w' 331 ∧ Wr w' ∧ wK w' x = (5, 0) ∧ wA w' x = a ∧ (∀ k, k < x → sg' k = sg k) ∧ sg' (x + 1) 2 = 0 ∧ Rel sg' (x + 4) (F_begins (fun _ => 0)) ∧ Bt sg' (x + 22) ∧ (∀ j, sg' (x + 40) j = 0) ∧ (∀ j, j < 14 → Bt sg' (x + 40 + 2 + 18 * j)) ∧ ∀ j, j < 2 → Bt sg' (x + 40 + 255 + 18 * j)) := by
  refine MN_of [some (vR (some (55, 0, x)))] rfl (Nat.le_of_ble_eq_true rfl) (by decide +kernel) rfl ?_
  intro p_ e_ s_ m_ args_ below_ meth_ c_ hC hin hB hO
  have hC0 := Cx_back (by omega) hC
  have hB0 : wB w0 ≤ s_.heap.size := hB
  have E1 : Ext w0 (wpush w0 a (55, 0)) 1 := Ext.push (by omega) a (55, 0)
  have W1 : Wr (wpush w0 a (55, 0)) := hW0.push (by omega) a ⟨fun z => absurd z (by decide), by decide⟩
  have K1 : wK (wpush w0 a (55, 0)) x = (55, 0) := pK_n hc.symm
  have A1 : wA (wpush w0 a (55, 0)) x = a := pA_n hc.symm
  have n1 : wN (wpush w0 a (55, 0)) = x + 1 := congrArg (· + 1) hc
  generalize wpush w0 a (55, 0) = w1 at hC hB hO E1 W1 K1 A1 n1 ⊢
  refine V_aload_n hC kX5_init_0 rfl ?_
  refine V_objI hC loX5 oi_ kX5_init_1 ⟨(Nat.le_of_ble_eq_true rfl), (Nat.le_of_ble_eq_true rfl)⟩ ?_
  -- the text
  refine V_aload_n hC kX5_init_4 rfl ?_
  refine V_new hC W1 hB (by omega) 4 54 (Or.inl rfl) (by decide) lkX5_7 ni4 kX5_init_5 ⟨(Nat.le_of_ble_eq_true rfl), (Nat.le_of_ble_eq_true rfl)⟩ (fun a5 => ?_)
  rw [n1]
  have E2 : Ext w0 (wpush w1 a5 (54, 0)) 2 := E1.psh (by omega) a5 _
  have hC2 := Cx_ext hC0 E2
  refine V_dup hC2 kX5_init_8 rfl ?_
  refine V_invI [some (vR (some (55, 0, x)))] [vR (some (4, 0, x + 1)), vR (some (55, 0, x))] hC2 (by rw [E2.b]; exact hB0) (cn_text (a := a5) W1 n1 (by omega)) miX4_init rfl rfl lmX5_9 kX5_init_9 rfl rfl (Nat.le_of_ble_eq_true rfl) ⟨(Nat.le_of_ble_eq_true rfl), (Nat.le_of_ble_eq_true rfl)⟩ ⟨(Nat.le_of_ble_eq_true rfl), (Nat.le_of_ble_eq_true rfl)⟩ (fun w2 sg2 h => ?_) (fun w2 sg2 h => ?_)
  · obtain ⟨F, X2, B2, A2, S2⟩ := h
    have v : Vm (wpush w1 a5 (54, 0)) w2 (vR (some (55, 0, x))) (vR (some (55, 0, x))) := Vm.r ((F.a (by omega)).trans (pA_o (by omega)).symm) (fun _ => okr_of (by decide) (by have := F.n; omega) ((F.k (by omega)).trans K1))
    exact ⟨F.b, ⟨v, trivial⟩, ⟨Vm.r (A2.trans (pA_n n1.symm).symm) (fun _ => okr_of (by decide) (by have := F.n; omega) B2.1), v, trivial⟩⟩
  obtain ⟨F, X2, B2, A2, S2⟩ := h
  have n2 : wN w2 = x + 4 := by have := F.n; omega
  have E3 : Ext w0 w2 4 := E1.tr F
  have hC3 := Cx_ext hC0 E3
  refine V_putRF hC3 hin 5 0 lgX5_10 kX5_init_12 (by decide) (by decide) rfl ⟨rfl, rfl⟩ (fun _ => ⟨rfl, rfl⟩) ?_
  have E4 : Ext w0 (wsetR w2 x 0 (some (4, 0, x + 1))) 4 := E3.setR (by omega) 0 _
  have W4 : Wr (wsetR w2 x 0 (some (4, 0, x + 1))) := X2.setR (okr_of (by decide) (by omega) B2.1)
  have K4 : wK (wsetR w2 x 0 (some (4, 0, x + 1))) x = (55, 0) := (F.k (by omega)).trans K1
  have T4 : TB (wsetR w2 x 0 (some (4, 0, x + 1))) (x + 1) := B2
  have A4 : wA (wsetR w2 x 0 (some (4, 0, x + 1))) x = a := (F.a (by omega)).trans A1
  have n4 : wN (wsetR w2 x 0 (some (4, 0, x + 1))) = x + 4 := n2
  have R4 : wR (wsetR w2 x 0 (some (4, 0, x + 1))) x 0 = some (4, 0, x + 1) := wsetR_at _ _ _ _
  have S4 : (∀ k, k < x → sg2 k = sg k) ∧ sg2 (x + 1) 2 = 0 := ⟨fun k hk => (S2 k (by omega)).trans (upr_ne _ _ (by omega)), by rw [S2 (x + 1) (Nat.le_refl _), upr_at]⟩
  generalize wsetR w2 x 0 (some (4, 0, x + 1)) = w4 at E4 W4 K4 T4 A4 n4 R4 ⊢
  clear F X2 B2 A2 S2 n2 E3 hC3
  -- the coast
  have hC4 := Cx_ext hC0 E4
  refine V_aload_n hC4 kX5_init_15 rfl ?_
  refine V_new hC4 W4 (by rw [E4.b]; exact hB0) (by omega) 1 51 (Or.inl rfl) (by decide) lkX5_16 ni1 kX5_init_16 ⟨(Nat.le_of_ble_eq_true rfl), (Nat.le_of_ble_eq_true rfl)⟩ (fun a6 => ?_)
  rw [n4]
  have E5 : Ext w0 (wpush w4 a6 (51, 0)) 5 := E4.psh (by omega) a6 _
  have hC5 := Cx_ext hC0 E5
  refine V_dup hC5 kX5_init_19 rfl ?_
  refine V_invI [some (vR (some (55, 0, x)))] [vR (some (1, 0, x + 4)), vR (some (55, 0, x))] hC5 (by rw [E5.b]; exact hB0) (cn_coast (a := a6) W4 n4 (by omega)) miX1_init rfl rfl lmX5_18 kX5_init_20 rfl rfl (Nat.le_of_ble_eq_true rfl) ⟨(Nat.le_of_ble_eq_true rfl), (Nat.le_of_ble_eq_true rfl)⟩ ⟨(Nat.le_of_ble_eq_true rfl), (Nat.le_of_ble_eq_true rfl)⟩ (fun w5 sg5 h => ?_) (fun w5 sg5 h => ?_)
  · obtain ⟨F, X2, B2, A2, S2, R2⟩ := h
    have v : Vm (wpush w4 a6 (51, 0)) w5 (vR (some (55, 0, x))) (vR (some (55, 0, x))) := Vm.r ((F.a (by omega)).trans (pA_o (by omega)).symm) (fun _ => okr_of (by decide) (by have := F.n; omega) ((F.k (by omega)).trans K4))
    exact ⟨F.b, ⟨v, trivial⟩, ⟨Vm.r (A2.trans (pA_n n4.symm).symm) (fun _ => okr_of (by decide) (by have := F.n; omega) (B2 0 (by decide))), v, trivial⟩⟩
  obtain ⟨F, X2, B2, A2, S2, R2⟩ := h
  have n5 : wN w5 = x + 22 := by have := F.n; omega
  have E6 : Ext w0 w5 22 := E4.tr F
  refine V_putRF (Cx_ext hC0 E6) hin 5 1 lgX5_19 kX5_init_23 (by decide) (by decide) rfl ⟨rfl, rfl⟩ (fun _ => ⟨rfl, rfl⟩) ?_
  have E7 : Ext w0 (wsetR w5 x 1 (some (1, 0, x + 4))) 22 := E6.setR (by omega) 1 _
  have W7 : Wr (wsetR w5 x 1 (some (1, 0, x + 4))) := X2.setR (okr_of (by decide) (by omega) (B2 0 (by decide)))
  have K7 : wK (wsetR w5 x 1 (some (1, 0, x + 4))) x = (55, 0) := (F.k (by omega)).trans K4
  have T7 : TB (wsetR w5 x 1 (some (1, 0, x + 4))) (x + 1) := TB.setR (T4.ext F (by omega))
  have C7 : CB (wsetR w5 x 1 (some (1, 0, x + 4))) (x + 4) := B2
  have A7 : wA (wsetR w5 x 1 (some (1, 0, x + 4))) x = a := (F.a (by omega)).trans A4
  have n7 : wN (wsetR w5 x 1 (some (1, 0, x + 4))) = x + 22 := n5
  have R7 : wR (wsetR w5 x 1 (some (1, 0, x + 4))) x 0 = some (4, 0, x + 1) := sR_r (Or.inr (by decide)) (F.rr (by omega) R4)
  have R7b : wR (wsetR w5 x 1 (some (1, 0, x + 4))) x 1 = some (1, 0, x + 4) := wsetR_at _ _ _ _
  have S7 : (∀ k, k < x → sg5 k = sg k) ∧ sg5 (x + 1) 2 = 0 ∧ Rel sg5 (x + 4) (F_begins (fun _ => 0)) := ⟨fun k hk => (S2 k (by omega)).trans ((upr_ne _ _ (by omega)).trans (S4.1 k hk)), by rw [S2 (x + 1) (by omega), upr_ne _ _ (by omega)]; exact S4.2, R2⟩
  generalize wsetR w5 x 1 (some (1, 0, x + 4)) = w7 at E7 W7 K7 T7 C7 A7 n7 R7 R7b ⊢
  clear F X2 B2 A2 S2 R2 n5 E6
  -- the trial
  have hC7 := Cx_ext hC0 E7
  refine V_aload_n hC7 kX5_init_26 rfl ?_
  refine V_new hC7 W7 (by rw [E7.b]; exact hB0) (by omega) 1 51 (Or.inl rfl) (by decide) lkX5_16 ni1 kX5_init_27 ⟨(Nat.le_of_ble_eq_true rfl), (Nat.le_of_ble_eq_true rfl)⟩ (fun a7 => ?_)
  rw [n7]
  have E8 : Ext w0 (wpush w7 a7 (51, 0)) 23 := E7.psh (by omega) a7 _
  have hC8 := Cx_ext hC0 E8
  refine V_dup hC8 kX5_init_30 rfl ?_
  refine V_invI [some (vR (some (55, 0, x)))] [vR (some (1, 0, x + 22)), vR (some (55, 0, x))] hC8 (by rw [E8.b]; exact hB0) (cn_coast (a := a7) W7 n7 (by omega)) miX1_init rfl rfl lmX5_18 kX5_init_31 rfl rfl (Nat.le_of_ble_eq_true rfl) ⟨(Nat.le_of_ble_eq_true rfl), (Nat.le_of_ble_eq_true rfl)⟩ ⟨(Nat.le_of_ble_eq_true rfl), (Nat.le_of_ble_eq_true rfl)⟩ (fun w8 sg8 h => ?_) (fun w8 sg8 h => ?_)
  · obtain ⟨F, X2, B2, A2, S2, R2⟩ := h
    have v : Vm (wpush w7 a7 (51, 0)) w8 (vR (some (55, 0, x))) (vR (some (55, 0, x))) := Vm.r ((F.a (by omega)).trans (pA_o (by omega)).symm) (fun _ => okr_of (by decide) (by have := F.n; omega) ((F.k (by omega)).trans K7))
    exact ⟨F.b, ⟨v, trivial⟩, ⟨Vm.r (A2.trans (pA_n n7.symm).symm) (fun _ => okr_of (by decide) (by have := F.n; omega) (B2 0 (by decide))), v, trivial⟩⟩
  obtain ⟨F, X2, B2, A2, S2, R2⟩ := h
  have n8 : wN w8 = x + 40 := by have := F.n; omega
  have E9 : Ext w0 w8 40 := E7.tr F
  refine V_putRF (Cx_ext hC0 E9) hin 5 2 lgX5_23 kX5_init_34 (by decide) (by decide) rfl ⟨rfl, rfl⟩ (fun _ => ⟨rfl, rfl⟩) ?_
  have Ea : Ext w0 (wsetR w8 x 2 (some (1, 0, x + 22))) 40 := E9.setR (by omega) 2 _
  have Wa : Wr (wsetR w8 x 2 (some (1, 0, x + 22))) := X2.setR (okr_of (by decide) (by omega) (B2 0 (by decide)))
  have Ka : wK (wsetR w8 x 2 (some (1, 0, x + 22))) x = (55, 0) := (F.k (by omega)).trans K7
  have Ta : TB (wsetR w8 x 2 (some (1, 0, x + 22))) (x + 1) := TB.setR (T7.ext F (by omega))
  have Ca : CB (wsetR w8 x 2 (some (1, 0, x + 22))) (x + 4) := CB.setR (C7.ext F (by omega))
  have Cb : CB (wsetR w8 x 2 (some (1, 0, x + 22))) (x + 22) := B2
  have Aa : wA (wsetR w8 x 2 (some (1, 0, x + 22))) x = a := (F.a (by omega)).trans A7
  have na : wN (wsetR w8 x 2 (some (1, 0, x + 22))) = x + 40 := n8
  have Ra : wR (wsetR w8 x 2 (some (1, 0, x + 22))) x 0 = some (4, 0, x + 1) := sR_r (Or.inr (by decide)) (F.rr (by omega) R7)
  have Rb : wR (wsetR w8 x 2 (some (1, 0, x + 22))) x 1 = some (1, 0, x + 4) := sR_r (Or.inr (by decide)) (F.rr (by omega) R7b)
  have Rc : wR (wsetR w8 x 2 (some (1, 0, x + 22))) x 2 = some (1, 0, x + 22) := wsetR_at _ _ _ _
  have Sa : (∀ k, k < x → sg8 k = sg k) ∧ sg8 (x + 1) 2 = 0 ∧ Rel sg8 (x + 4) (F_begins (fun _ => 0)) ∧ Bt sg8 (x + 22) := ⟨fun k hk => (S2 k (by omega)).trans ((upr_ne _ _ (by omega)).trans (S7.1 k hk)), by rw [S2 (x + 1) (by omega), upr_ne _ _ (by omega)]; exact S7.2.1, S7.2.2.fr (Inv_begins _).cn (fun k h1 h2 => (S2 k (by omega)).trans (upr_ne _ _ (by omega))), R2.2.2.2.2⟩
  generalize wsetR w8 x 2 (some (1, 0, x + 22)) = wa at Ea Wa Ka Ta Ca Cb Aa na Ra Rb Rc ⊢
  clear F X2 B2 A2 S2 R2 n8 E9
  -- the memory
  have hCa := Cx_ext hC0 Ea
  refine V_aload_n hCa kX5_init_37 rfl ?_
  refine V_new hCa Wa (by rw [Ea.b]; exact hB0) (by omega) 3 53 (Or.inl rfl) (by decide) lkX5_26 ni3 kX5_init_38 ⟨(Nat.le_of_ble_eq_true rfl), (Nat.le_of_ble_eq_true rfl)⟩ (fun a8 => ?_)
  rw [na]
  have Eb : Ext w0 (wpush wa a8 (53, 0)) 41 := Ea.psh (by omega) a8 _
  have hCb := Cx_ext hC0 Eb
  refine V_dup hCb kX5_init_41 rfl ?_
  refine V_invI [some (vR (some (55, 0, x)))] [vR (some (3, 0, x + 40)), vR (some (55, 0, x))] hCb (by rw [Eb.b]; exact hB0) (cn_mem (a := a8) Wa na (by omega)) miX3_init rfl rfl lmX5_28 kX5_init_42 rfl rfl (Nat.le_of_ble_eq_true rfl) ⟨(Nat.le_of_ble_eq_true rfl), (Nat.le_of_ble_eq_true rfl)⟩ ⟨(Nat.le_of_ble_eq_true rfl), (Nat.le_of_ble_eq_true rfl)⟩ (fun wb sgb h => ?_) (fun wb sgb h => ?_)
  · obtain ⟨F, X2, B2, A2, S2⟩ := h
    have v : Vm (wpush wa a8 (53, 0)) wb (vR (some (55, 0, x))) (vR (some (55, 0, x))) := Vm.r ((F.a (by omega)).trans (pA_o (by omega)).symm) (fun _ => okr_of (by decide) (by have := F.n; omega) ((F.k (by omega)).trans Ka))
    exact ⟨F.b, ⟨v, trivial⟩, ⟨Vm.r (A2.trans (pA_n na.symm).symm) (fun _ => okr_of (by decide) (by have := F.n; omega) B2.1), v, trivial⟩⟩
  obtain ⟨F, X2, B2, A2, S2, S3, S5⟩ := h
  have nb : wN wb = x + 331 := by have := F.n; omega
  have Ec : Ext w0 wb 331 := Ea.tr F
  refine V_putRF (Cx_ext hC0 Ec) hin 5 3 lgX5_29 kX5_init_45 (by decide) (by decide) rfl ⟨rfl, rfl⟩ (fun _ => ⟨rfl, rfl⟩) ?_
  have Ed : Ext w0 (wsetR wb x 3 (some (3, 0, x + 40))) 331 := Ec.setR (by omega) 3 _
  have Kd : wK (wsetR wb x 3 (some (3, 0, x + 40))) x = (55, 0) := (F.k (by omega)).trans Ka
  have Td : TB (wsetR wb x 3 (some (3, 0, x + 40))) (x + 1) := TB.setR (Ta.ext F (by omega))
  have Cd : CB (wsetR wb x 3 (some (3, 0, x + 40))) (x + 4) := CB.setR (Ca.ext F (by omega))
  have Ce : CB (wsetR wb x 3 (some (3, 0, x + 40))) (x + 22) := CB.setR (Cb.ext F (by omega))
  have Md : MB (wsetR wb x 3 (some (3, 0, x + 40))) (x + 40) := B2
  have Ad : wA (wsetR wb x 3 (some (3, 0, x + 40))) x = a := (F.a (by omega)).trans Aa
  have nd : wN (wsetR wb x 3 (some (3, 0, x + 40))) = x + 331 := nb
  have Rd : wR (wsetR wb x 3 (some (3, 0, x + 40))) x 0 = some (4, 0, x + 1) := sR_r (Or.inr (by decide)) (F.rr (by omega) Ra)
  have Re : wR (wsetR wb x 3 (some (3, 0, x + 40))) x 1 = some (1, 0, x + 4) := sR_r (Or.inr (by decide)) (F.rr (by omega) Rb)
  have Rf : wR (wsetR wb x 3 (some (3, 0, x + 40))) x 2 = some (1, 0, x + 22) := sR_r (Or.inr (by decide)) (F.rr (by omega) Rc)
  have Rg : wR (wsetR wb x 3 (some (3, 0, x + 40))) x 3 = some (3, 0, x + 40) := wsetR_at _ _ _ _
  generalize wsetR wb x 3 (some (3, 0, x + 40)) = v at Ed Kd Td Cd Ce Md Ad nd Rd Re Rf Rg ⊢
  obtain ⟨K, hK⟩ : ∃ K : Nat → Nat × Nat, K = fun k => if k = x then (5, 0) else wK v k := ⟨_, rfl⟩
  have Ko : ∀ k, k ≠ x → K k = wK v k := fun k hk => by rw [hK]; exact if_neg hk
  have K0 : K x = (5, 0) := by rw [hK]; exact if_pos rfl
  have Ez : Ext w0 (wkind v K) 331 := Ed.kind (fun k hk => Ko k (by omega))
  have nz : wN (wkind v K) = x + 331 := nd
  have Tz : TB (wkind v K) (x + 1) := ⟨(Ko _ (by omega)).trans Td.1, (Ko _ (by omega)).trans Td.2.1, (Ko _ (by omega)).trans Td.2.2⟩
  have Cz : CB (wkind v K) (x + 4) := fun i hi => (Ko _ (by omega)).trans (Cd i hi)
  have Dz : CB (wkind v K) (x + 22) := fun i hi => (Ko _ (by omega)).trans (Ce i hi)
  have Mz : MB (wkind v K) (x + 40) := ⟨(Ko _ (by omega)).trans Md.1, (Ko _ (by omega)).trans Md.2.1, fun j hj i hi => (Ko _ (by omega)).trans (Md.2.2.1 j hj i hi), (Ko _ (by omega)).trans Md.2.2.2.1, fun j hj i hi => (Ko _ (by omega)).trans (Md.2.2.2.2 j hj i hi)⟩
  have Wz : Wr (wkind v K) := hW0.blk Ez (fun i hi => by
    rw [hc]
    by_cases z0 : i = 0
    · subst z0
      refine WrAt.obj (w := wkind v K) K0 (by decide) (fun j q e => ?_)
      rcases rf5_in e with ⟨-, rfl⟩ | ⟨-, rfl⟩ | ⟨-, rfl⟩ | ⟨-, rfl⟩
      · exact okr_of (by decide) (by omega) Tz.1
      · exact okr_of (by decide) (by omega) (Cz 0 (by decide))
      · exact okr_of (by decide) (by omega) (Dz 0 (by decide))
      · exact okr_of (by decide) (by omega) Mz.1
    by_cases z1 : i < 4
    · have h9 := Tz.wr (by omega) (i - 1) (by omega)
      rw [show x + 1 + (i - 1) = x + i by omega] at h9
      exact h9
    by_cases z2 : i < 22
    · have h9 := Cz.wr (by omega) (i - 4) (by omega)
      rw [show x + 4 + (i - 4) = x + i by omega] at h9
      exact h9
    by_cases z3 : i < 40
    · have h9 := Dz.wr (by omega) (i - 22) (by omega)
      rw [show x + 22 + (i - 22) = x + i by omega] at h9
      exact h9
    have h9 := Mz.wr (by omega) (i - 40) (by omega)
    rw [show x + 40 + (i - 40) = x + i by omega] at h9
    exact h9)
  refine V_re (w' := wkind v K) (loc' := [none]) (st' := []) (fun H hP => Wp_re (w := v) (w' := wkind v K) rfl rfl rfl (fun _ _ => rfl) (fun k hk => ?_) hP) rfl trivial trivial ?_
  · by_cases z0 : k = x
    · subst z0
      refine eE_obj (ci := 5) Kd K0 (by decide) (fun j q e => ?_)
      rcases rf5_in e with ⟨rfl, rfl⟩ | ⟨rfl, rfl⟩ | ⟨rfl, rfl⟩ | ⟨rfl, rfl⟩
      · exact ⟨_, _, Rd⟩
      · exact ⟨_, _, Re⟩
      · exact ⟨_, _, Rf⟩
      · exact ⟨_, _, Rg⟩
    · exact eE_same (Ko k z0)
  · refine V_vretN (Cx_ext hC0 Ez) (by rw [Ez.b, E1.b]) rfl kX5_init_48 ⟨(Nat.le_of_ble_eq_true rfl), (Nat.le_of_ble_eq_true rfl)⟩ ?_
    refine ⟨Ez, Wz, K0, Ad, fun k hk => (S2 k (by omega)).trans ((upr_ne _ _ (by omega)).trans (Sa.1 k hk)), ?_, Sa.2.2.1.fr (Inv_begins _).cn (fun k h1 h2 => (S2 k (by omega)).trans (upr_ne _ _ (by omega))), Sa.2.2.2.fr (fun k h1 h2 => (S2 k (by omega)).trans (upr_ne _ _ (by omega))), fun j => ?_, S3, S5⟩
    · rw [S2 (x + 1) (by omega), upr_ne _ _ (by omega)]
      exact Sa.2.1
    · rw [S2 (x + 40) (Nat.le_refl _), upr_at]

