/-! constructors: text, memory, reference -/
def TB (w : Wd) (t : Nat) : Prop := wK w t = (4, 0) ∧ wK w (t + 1) = (11, 120) ∧ wK w (t + 2) = (10, 6)
theorem TB.ext {w w' : Wd} {n t : Nat} (h : TB w t) (E : Ext w w' n) (ht : t + 3 ≤ wN w) : TB w' t := ⟨(E.k (by omega)).trans h.1, (E.k (by omega)).trans h.2.1, (E.k (by omega)).trans h.2.2⟩
theorem TB.wr {w : Wd} {t : Nat} (h : TB w t) (ht : t + 3 ≤ wN w) : ∀ i, i < 3 → WrAt w (t + i) := by
  intro i hi
  by_cases z : i = 0
  · subst z
    refine WrAt.obj h.1 (by decide) (fun j q e => ?_)
    rcases rf4_in e with ⟨-, rfl⟩ | ⟨-, rfl⟩
    · exact okr_of (by decide) (by omega) h.2.1
    · exact okr_of (by decide) (by omega) h.2.2
  by_cases z1 : i = 1
  · subst z1
    exact WrAt.leaf h.2.1 ⟨fun z => absurd z (by decide), by decide, by decide⟩
  obtain rfl : i = 2 := by omega
  exact WrAt.leaf h.2.2 ⟨fun z => absurd z (by decide), by decide, by decide⟩
set_option maxHeartbeats 8000000 in
set_option maxRecDepth 100000 in
/-- a text -/
theorem cn_text {l : Launch} {w0 : Wd} {sg : Sg} {a t : Nat} (hW0 : Wr w0) (hc : wN w0 = t) (hc2 : t + 3 < 1000000) : MN l mtX4_init (wpush w0 a (54, 0)) [vR (some (54, 0, t))] sg (fun w' sg' => Ext w0 w' 3 ∧ Wr w' ∧ TB w' t ∧ wA w' t = a ∧ (∀ k, k ≤ t → sg' k = sg k)) := by
  refine MN_of [some (vR (some (54, 0, t)))] rfl (Nat.le_of_ble_eq_true rfl) (by decide +kernel) rfl ?_
  intro p_ e_ s_ m_ args_ below_ meth_ c_ hC hin hB hO
  have hC0 := Cx_back (by omega) hC
  have hB0 : wB w0 ≤ s_.heap.size := hB
  have E1 : Ext w0 (wpush w0 a (54, 0)) 1 := Ext.push (by omega) a (54, 0)
  have W1 : Wr (wpush w0 a (54, 0)) := hW0.push (by omega) a ⟨fun z => absurd z (by decide), by decide⟩
  have K1 : wK (wpush w0 a (54, 0)) t = (54, 0) := pK_n hc.symm
  have A1 : wA (wpush w0 a (54, 0)) t = a := if_pos hc.symm
  generalize wpush w0 a (54, 0) = w1 at hC hB hO E1 W1 K1 A1 ⊢
  have n1 : wN w1 = t + 1 := by have := E1.n; omega
  refine V_aload_n hC kX4_init_0 rfl ?_
  refine V_objI hC loX4 oi_ kX4_init_1 ⟨(Nat.le_of_ble_eq_true rfl), (Nat.le_of_ble_eq_true rfl)⟩ ?_
  refine V_aload_n hC kX4_init_4 rfl ?_
  refine V_bipush hC 120 kX4_init_5 (by decide) ?_
  refine V_newI hC W1 hB (by omega) 11 120 (Or.inl (Or.inr ⟨rfl, rfl⟩)) (by decide) rfl (by decide) kX4_init_7 ⟨(Nat.le_of_ble_eq_true rfl), (Nat.le_of_ble_eq_true rfl)⟩ (fun a2 => ?_)
  rw [n1]
  have E2 : Ext w0 (wpush w1 a2 (11, 120)) 2 := E1.psh (by omega) a2 _
  have W2 : Wr (wpush w1 a2 (11, 120)) := W1.push (by omega) a2 ⟨fun z => absurd z (by decide), by decide⟩
  have K2 : wK (wpush w1 a2 (11, 120)) t = (54, 0) := (pK_o (by omega)).trans K1
  have K2a : wK (wpush w1 a2 (11, 120)) (t + 1) = (11, 120) := pK_n n1.symm
  have A2 : wA (wpush w1 a2 (11, 120)) t = a := (if_neg (by omega)).trans A1
  generalize wpush w1 a2 (11, 120) = w2 at E2 W2 K2 K2a A2 ⊢
  have n2 : wN w2 = t + 2 := by have := E2.n; omega
  refine V_putRF (Cx_ext hC0 E2) hin 4 0 lgX4_11 kX4_init_9 (by decide) (by decide) rfl ⟨rfl, rfl⟩ (fun _ => ⟨rfl, rfl⟩) ?_
  have E3 : Ext w0 (wsetR w2 t 0 (some (11, 120, t + 1))) 2 := E2.setR (by omega) 0 _
  have W3 : Wr (wsetR w2 t 0 (some (11, 120, t + 1))) := W2.setR (okr_of (by decide) (by omega) K2a)
  have K3 : wK (wsetR w2 t 0 (some (11, 120, t + 1))) t = (54, 0) := K2
  have K3a : wK (wsetR w2 t 0 (some (11, 120, t + 1))) (t + 1) = (11, 120) := K2a
  have A3 : wA (wsetR w2 t 0 (some (11, 120, t + 1))) t = a := A2
  have R3 : wR (wsetR w2 t 0 (some (11, 120, t + 1))) t 0 = some (11, 120, t + 1) := wsetR_at _ _ _ _
  have n3 : wN (wsetR w2 t 0 (some (11, 120, t + 1))) = t + 2 := n2
  generalize wsetR w2 t 0 (some (11, 120, t + 1)) = w3 at E3 W3 K3 K3a A3 R3 n3 ⊢
  have hC3 := Cx_ext hC0 E3
  refine V_aload_n hC3 kX4_init_12 rfl ?_
  refine V_bipush hC3 6 kX4_init_13 (by decide) ?_
  refine V_newI hC3 W3 (by rw [E3.b]; exact hB0) (by omega) 10 6 (Or.inl (Or.inl ⟨rfl, rfl⟩)) (by decide) rfl (by decide) kX4_init_15 ⟨(Nat.le_of_ble_eq_true rfl), (Nat.le_of_ble_eq_true rfl)⟩ (fun a4 => ?_)
  rw [n3]
  have E4 : Ext w0 (wpush w3 a4 (10, 6)) 3 := E3.psh (by omega) a4 _
  refine V_putRF (Cx_ext hC0 E4) hin 4 1 lgX4_15 kX4_init_17 (by decide) (by decide) rfl ⟨rfl, rfl⟩ (fun _ => ⟨rfl, rfl⟩) ?_
  have E5 : Ext w0 (wsetR (wpush w3 a4 (10, 6)) t 1 (some (10, 6, t + 2))) 3 := E4.setR (by omega) 1 _
  have K5 : wK (wsetR (wpush w3 a4 (10, 6)) t 1 (some (10, 6, t + 2))) t = (54, 0) := (pK_o (a := a4) (q := (10, 6)) (by omega)).trans K3
  have K5a : wK (wsetR (wpush w3 a4 (10, 6)) t 1 (some (10, 6, t + 2))) (t + 1) = (11, 120) := (pK_o (a := a4) (q := (10, 6)) (by omega)).trans K3a
  have K5b : wK (wsetR (wpush w3 a4 (10, 6)) t 1 (some (10, 6, t + 2))) (t + 2) = (10, 6) := pK_n (a := a4) n3.symm
  have A5 : wA (wsetR (wpush w3 a4 (10, 6)) t 1 (some (10, 6, t + 2))) t = a := (show wA (wpush w3 a4 (10, 6)) t = wA w3 t from if_neg (by omega)).trans A3
  have R5 : wR (wsetR (wpush w3 a4 (10, 6)) t 1 (some (10, 6, t + 2))) t 0 = some (11, 120, t + 1) := sR_r (Or.inr (by decide)) (pR_r (by omega) R3)
  have R5b : wR (wsetR (wpush w3 a4 (10, 6)) t 1 (some (10, 6, t + 2))) t 1 = some (10, 6, t + 2) := wsetR_at _ _ _ _
  have n5 : wN (wsetR (wpush w3 a4 (10, 6)) t 1 (some (10, 6, t + 2))) = t + 3 := congrArg (· + 1) n3
  generalize wsetR (wpush w3 a4 (10, 6)) t 1 (some (10, 6, t + 2)) = v at E5 K5 K5a K5b A5 R5 R5b n5 ⊢
  obtain ⟨K, hK⟩ : ∃ K : Nat → Nat × Nat, K = fun k => if k = t then (4, 0) else wK v k := ⟨_, rfl⟩
  have Ko : ∀ k, k ≠ t → K k = wK v k := fun k hk => by rw [hK]; exact if_neg hk
  have K0 : K t = (4, 0) := by rw [hK]; exact if_pos rfl
  have E6 : Ext w0 (wkind v K) 3 := E5.kind (fun k hk => Ko k (by omega))
  have B6 : TB (wkind v K) t := ⟨K0, (Ko _ (by omega)).trans K5a, (Ko _ (by omega)).trans K5b⟩
  have W6 : Wr (wkind v K) := hW0.blk E6 (by rw [hc]; exact B6.wr (Nat.le_of_eq n5.symm))
  refine V_re (w' := wkind v K) (loc' := [none]) (st' := []) (fun H hP => Wp_re (w := v) (w' := wkind v K) rfl rfl rfl (fun _ _ => rfl) (fun k hk => ?_) hP) rfl trivial trivial ?_
  · by_cases z : k = t
    · subst z
      refine eE_obj (ci := 4) K5 K0 (by decide) (fun j q e => ?_)
      rcases rf4_in e with ⟨rfl, rfl⟩ | ⟨rfl, rfl⟩
      · exact ⟨_, _, R5⟩
      · exact ⟨_, _, R5b⟩
    · exact eE_same (Ko k z)
  · refine V_vretN (Cx_ext hC0 E6) (by rw [E6.b, E1.b]) rfl kX4_init_20 ⟨(Nat.le_of_ble_eq_true rfl), (Nat.le_of_ble_eq_true rfl)⟩ ?_
    exact ⟨E6, W6, B6, A5, fun k hk => (upr_ne _ _ (by omega)).trans (upr_ne _ _ (by omega))⟩
/-! the reference's object -/
def AK (j : Nat) : Nat × Nat := match j with
  | 0 => (10, 140)
  | 1 => (10, 140)
  | 2 => (10, 1960)
  | 3 => (10, 280)
  | 4 => (12, 2)
  | 5 => (10, 120)
  | _ => (10, 6)
def AF (j : Nat) : Nat := match j with
  | 0 => 1
  | 1 => 2
  | 2 => 3
  | 3 => 5
  | 4 => 6
  | 5 => 7
  | _ => 13
theorem AF_ne : ∀ i, i < 7 → ∀ j, j < i → AF j ≠ AF i := by decide
def SM (w0 : Wd) (a mo i : Nat) (w : Wd) : Prop := Ext w0 w (1 + i) ∧ Wr w ∧ wK w mo = (56, 0) ∧ wA w mo = a ∧ wN w = mo + 1 + i ∧ ∀ j, j < i → wK w (mo + 1 + j) = AK j ∧ wR w mo (AF j) = some ((AK j).1, (AK j).2, mo + 1 + j)
theorem SM.step {w0 w : Wd} {a mo i a2 kd n : Nat} (h : SM w0 a mo i w) (hmo : wN w0 = mo) (hi : i < 7) (hk : AK i = (kd, n)) (hN : mo < 900000) : SM w0 a mo (i + 1) (wsetR (wpush w a2 (kd, n)) mo (AF i) (some (kd, n, mo + 1 + i))) := by
  obtain ⟨E, W, K, A, nN, h⟩ := h
  have hkd : kd < 13 ∧ 10 ≤ kd := by
    have : ∀ i, i < 7 → (AK i).1 < 13 ∧ 10 ≤ (AK i).1 := by decide
    have h2 := this i hi
    rw [hk] at h2
    exact h2
  have E2 : Ext w0 (wpush w a2 (kd, n)) (1 + (i + 1)) := E.psh (by omega) a2 _
  refine ⟨E2.setR (by omega) _ _, (W.push (by omega) a2 ⟨fun z => by omega, by omega⟩).setR (okr_of (by omega) (show mo + 1 + i < wN w + 1 by omega) (pK_n nN.symm)), (pK_o (a := a2) (q := (kd, n)) (by omega)).trans K, (show wA (wpush w a2 (kd, n)) mo = wA w mo from if_neg (by omega)).trans A, congrArg (· + 1) nN, fun j hj => ?_⟩
  rcases Nat.lt_or_ge j i with z | z
  · exact ⟨(pK_o (a := a2) (q := (kd, n)) (by omega)).trans (h j z).1, sR_r (Or.inr (AF_ne i hi j z)) (pR_r (by omega) (h j z).2)⟩
  · obtain rfl : j = i := by omega
    rw [hk]
    exact ⟨pK_n (a := a2) nN.symm, wsetR_at _ _ _ _⟩
set_option maxHeartbeats 8000000 in
set_option maxRecDepth 100000 in
/-- the reference's object -/
theorem cn_model {l : Launch} {w0 : Wd} {sg : Sg} {a mo : Nat} (hW0 : Wr w0) (hc : wN w0 = mo) (hc2 : mo < 900000) (hz : ∀ j, sg mo j = 0) : MN l mtX6_init (wpush w0 a (56, 0)) [vR (some (56, 0, mo))] sg (fun w' sg' => Ext w0 w' 8 ∧ Wr w' ∧ wK w' mo = (6, 0) ∧ wA w' mo = a ∧ (∀ k, k < mo → sg' k = sg k) ∧ (∀ j, sg' mo j = 0) ∧ sg' (mo + 1) = F_begins (fun _ => 0) ∧ ∀ j, sg' (mo + 5) j = 0) := by
  refine MN_of [some (vR (some (56, 0, mo)))] rfl (Nat.le_of_ble_eq_true rfl) (by decide +kernel) rfl ?_
  intro p_ e_ s_ m_ args_ below_ meth_ c_ hC hin hB hO
  have hC0 := Cx_back (by omega) hC
  have hB0 : wB w0 ≤ s_.heap.size := hB
  have E1 : Ext w0 (wpush w0 a (56, 0)) 1 := Ext.push (by omega) a (56, 0)
  have S0 : SM w0 a mo 0 (wpush w0 a (56, 0)) := ⟨E1, hW0.push (by omega) a ⟨fun z => absurd z (by decide), by decide⟩, pK_n hc.symm, if_pos hc.symm, congrArg (· + 1) hc, fun j hj => absurd hj (Nat.not_lt_zero _)⟩
  generalize wpush w0 a (56, 0) = w1 at hC hB hO E1 S0 ⊢
  refine V_aload_n hC kX6_init_0 rfl ?_
  refine V_objI hC loX6 oi_ kX6_init_1 ⟨(Nat.le_of_ble_eq_true rfl), (Nat.le_of_ble_eq_true rfl)⟩ ?_
  have hCa0 := Cx_ext hC0 S0.1
  refine V_aload_n hCa0 kX6_init_4 rfl ?_
  refine V_sipush hCa0 140 kX6_init_5 (by decide) ?_
  refine V_newI hCa0 S0.2.1 (by rw [S0.1.b]; exact hB0) (by have := S0.2.2.2.2.1; omega) 10 140 (Or.inl (Or.inl ⟨rfl, rfl⟩)) (by decide) rfl (by decide) kX6_init_8 ⟨(Nat.le_of_ble_eq_true rfl), (Nat.le_of_ble_eq_true rfl)⟩ (fun a2 => ?_)
  rw [S0.2.2.2.2.1]
  refine V_putRF (Cx_ext hC0 (S0.1.psh (by have := S0.2.2.2.2.1; omega) a2 _)) hin 6 1 lgX6_7 kX6_init_10 (by decide) (by decide) rfl ⟨rfl, rfl⟩ (fun _ => ⟨rfl, rfl⟩) ?_
  have S1 : SM w0 a mo 1 (wsetR (wpush w1 a2 (10, 140)) mo 1 (some (10, 140, mo + 1 + 0))) := S0.step hc (by decide) rfl hc2
  generalize wsetR (wpush w1 a2 (10, 140)) mo 1 (some (10, 140, mo + 1 + 0)) = v1 at S1 ⊢
  have hCa1 := Cx_ext hC0 S1.1
  refine V_aload_n hCa1 kX6_init_13 rfl ?_
  refine V_sipush hCa1 140 kX6_init_14 (by decide) ?_
  refine V_newI hCa1 S1.2.1 (by rw [S1.1.b]; exact hB0) (by have := S1.2.2.2.2.1; omega) 10 140 (Or.inl (Or.inl ⟨rfl, rfl⟩)) (by decide) rfl (by decide) kX6_init_17 ⟨(Nat.le_of_ble_eq_true rfl), (Nat.le_of_ble_eq_true rfl)⟩ (fun a3 => ?_)
  rw [S1.2.2.2.2.1]
  refine V_putRF (Cx_ext hC0 (S1.1.psh (by have := S1.2.2.2.2.1; omega) a3 _)) hin 6 2 lgX6_13 kX6_init_19 (by decide) (by decide) rfl ⟨rfl, rfl⟩ (fun _ => ⟨rfl, rfl⟩) ?_
  have S2 : SM w0 a mo 2 (wsetR (wpush v1 a3 (10, 140)) mo 2 (some (10, 140, mo + 1 + 1))) := S1.step hc (by decide) rfl hc2
  generalize wsetR (wpush v1 a3 (10, 140)) mo 2 (some (10, 140, mo + 1 + 1)) = v2 at S2 ⊢
  have hCa2 := Cx_ext hC0 S2.1
  refine V_aload_n hCa2 kX6_init_22 rfl ?_
  refine V_sipush hCa2 1960 kX6_init_23 (by decide) ?_
  refine V_newI hCa2 S2.2.1 (by rw [S2.1.b]; exact hB0) (by have := S2.2.2.2.2.1; omega) 10 1960 (Or.inl (Or.inl ⟨rfl, rfl⟩)) (by decide) rfl (by decide) kX6_init_26 ⟨(Nat.le_of_ble_eq_true rfl), (Nat.le_of_ble_eq_true rfl)⟩ (fun a4 => ?_)
  rw [S2.2.2.2.2.1]
  refine V_putRF (Cx_ext hC0 (S2.1.psh (by have := S2.2.2.2.2.1; omega) a4 _)) hin 6 3 lgX6_16 kX6_init_28 (by decide) (by decide) rfl ⟨rfl, rfl⟩ (fun _ => ⟨rfl, rfl⟩) ?_
  have S3 : SM w0 a mo 3 (wsetR (wpush v2 a4 (10, 1960)) mo 3 (some (10, 1960, mo + 1 + 2))) := S2.step hc (by decide) rfl hc2
  generalize wsetR (wpush v2 a4 (10, 1960)) mo 3 (some (10, 1960, mo + 1 + 2)) = v3 at S3 ⊢
  have hCa3 := Cx_ext hC0 S3.1
  refine V_aload_n hCa3 kX6_init_31 rfl ?_
  refine V_sipush hCa3 280 kX6_init_32 (by decide) ?_
  refine V_newI hCa3 S3.2.1 (by rw [S3.1.b]; exact hB0) (by have := S3.2.2.2.2.1; omega) 10 280 (Or.inl (Or.inl ⟨rfl, rfl⟩)) (by decide) rfl (by decide) kX6_init_35 ⟨(Nat.le_of_ble_eq_true rfl), (Nat.le_of_ble_eq_true rfl)⟩ (fun a5 => ?_)
  rw [S3.2.2.2.2.1]
  refine V_putRF (Cx_ext hC0 (S3.1.psh (by have := S3.2.2.2.2.1; omega) a5 _)) hin 6 5 lgX6_19 kX6_init_37 (by decide) (by decide) rfl ⟨rfl, rfl⟩ (fun _ => ⟨rfl, rfl⟩) ?_
  have S4 : SM w0 a mo 4 (wsetR (wpush v3 a5 (10, 280)) mo 5 (some (10, 280, mo + 1 + 3))) := S3.step hc (by decide) rfl hc2
  generalize wsetR (wpush v3 a5 (10, 280)) mo 5 (some (10, 280, mo + 1 + 3)) = v4 at S4 ⊢
  have hCa4 := Cx_ext hC0 S4.1
  refine V_aload_n hCa4 kX6_init_40 rfl ?_
  refine V_iconst hCa4 2 kX6_init_41 (by decide) ?_
  refine V_newI hCa4 S4.2.1 (by rw [S4.1.b]; exact hB0) (by have := S4.2.2.2.2.1; omega) 12 2 (Or.inr ⟨rfl, rfl⟩) (by decide) rfl (by decide) kX6_init_42 ⟨(Nat.le_of_ble_eq_true rfl), (Nat.le_of_ble_eq_true rfl)⟩ (fun a6 => ?_)
  rw [S4.2.2.2.2.1]
  refine V_putRF (Cx_ext hC0 (S4.1.psh (by have := S4.2.2.2.2.1; omega) a6 _)) hin 6 6 lgX6_22 kX6_init_44 (by decide) (by decide) rfl ⟨rfl, rfl⟩ (fun _ => ⟨rfl, rfl⟩) ?_
  have S5 : SM w0 a mo 5 (wsetR (wpush v4 a6 (12, 2)) mo 6 (some (12, 2, mo + 1 + 4))) := S4.step hc (by decide) rfl hc2
  generalize wsetR (wpush v4 a6 (12, 2)) mo 6 (some (12, 2, mo + 1 + 4)) = v5 at S5 ⊢
  have hCa5 := Cx_ext hC0 S5.1
  refine V_aload_n hCa5 kX6_init_47 rfl ?_
  refine V_bipush hCa5 120 kX6_init_48 (by decide) ?_
  refine V_newI hCa5 S5.2.1 (by rw [S5.1.b]; exact hB0) (by have := S5.2.2.2.2.1; omega) 10 120 (Or.inl (Or.inl ⟨rfl, rfl⟩)) (by decide) rfl (by decide) kX6_init_50 ⟨(Nat.le_of_ble_eq_true rfl), (Nat.le_of_ble_eq_true rfl)⟩ (fun a7 => ?_)
  rw [S5.2.2.2.2.1]
  refine V_putRF (Cx_ext hC0 (S5.1.psh (by have := S5.2.2.2.2.1; omega) a7 _)) hin 6 7 lgX6_26 kX6_init_52 (by decide) (by decide) rfl ⟨rfl, rfl⟩ (fun _ => ⟨rfl, rfl⟩) ?_
  have S6 : SM w0 a mo 6 (wsetR (wpush v5 a7 (10, 120)) mo 7 (some (10, 120, mo + 1 + 5))) := S5.step hc (by decide) rfl hc2
  generalize wsetR (wpush v5 a7 (10, 120)) mo 7 (some (10, 120, mo + 1 + 5)) = v6 at S6 ⊢
  have hCa6 := Cx_ext hC0 S6.1
  refine V_aload_n hCa6 kX6_init_55 rfl ?_
  refine V_bipush hCa6 6 kX6_init_56 (by decide) ?_
  refine V_newI hCa6 S6.2.1 (by rw [S6.1.b]; exact hB0) (by have := S6.2.2.2.2.1; omega) 10 6 (Or.inl (Or.inl ⟨rfl, rfl⟩)) (by decide) rfl (by decide) kX6_init_58 ⟨(Nat.le_of_ble_eq_true rfl), (Nat.le_of_ble_eq_true rfl)⟩ (fun a8 => ?_)
  rw [S6.2.2.2.2.1]
  refine V_putRF (Cx_ext hC0 (S6.1.psh (by have := S6.2.2.2.2.1; omega) a8 _)) hin 6 13 lgX6_29 kX6_init_60 (by decide) (by decide) rfl ⟨rfl, rfl⟩ (fun _ => ⟨rfl, rfl⟩) ?_
  have S7 : SM w0 a mo 7 (wsetR (wpush v6 a8 (10, 6)) mo 13 (some (10, 6, mo + 1 + 6))) := S6.step hc (by decide) rfl hc2
  generalize wsetR (wpush v6 a8 (10, 6)) mo 13 (some (10, 6, mo + 1 + 6)) = v7 at S7 ⊢
  obtain ⟨E, W, K6, A6, n6, h6⟩ := S7
  obtain ⟨K, hK⟩ : ∃ K : Nat → Nat × Nat, K = fun k => if k = mo then (6, 0) else wK v7 k := ⟨_, rfl⟩
  have Ko : ∀ k, k ≠ mo → K k = wK v7 k := fun k hk => by rw [hK]; exact if_neg hk
  have K0 : K mo = (6, 0) := by rw [hK]; exact if_pos rfl
  have Ka : ∀ j, j < 7 → K (mo + 1 + j) = AK j := fun j hj => (Ko _ (by omega)).trans (h6 j hj).1
  have E8 : Ext w0 (wkind v7 K) 8 := E.kind (fun k hk => Ko k (by omega))
  have n8 : wN (wkind v7 K) = mo + 8 := n6
  have W8 : Wr (wkind v7 K) := hW0.blk E8 (fun i hi => by
    rw [hc]
    by_cases z : i = 0
    · subst z
      refine WrAt.obj (w := wkind v7 K) K0 (by decide) (fun j q e => ?_)
      rcases rf6_in e with ⟨-, rfl⟩ | ⟨-, rfl⟩ | ⟨-, rfl⟩ | ⟨-, rfl⟩ | ⟨-, rfl⟩ | ⟨-, rfl⟩ | ⟨-, rfl⟩
      · exact okr_of (by decide) (by omega) (Ka 0 (by decide))
      · exact okr_of (by decide) (by omega) (Ka 1 (by decide))
      · exact okr_of (by decide) (by omega) (Ka 2 (by decide))
      · exact okr_of (by decide) (by omega) (Ka 3 (by decide))
      · exact okr_of (by decide) (by omega) (Ka 4 (by decide))
      · exact okr_of (by decide) (by omega) (Ka 5 (by decide))
      · exact okr_of (by decide) (by omega) (Ka 6 (by decide))
    · have h9 := Ka (i - 1) (by omega)
      rw [show mo + 1 + (i - 1) = mo + i by omega] at h9
      have : ∀ i, i < 7 → 10 ≤ (AK i).1 ∧ (AK i).1 < 13 := by decide
      have h10 := this (i - 1) (by omega)
      exact WrAt.leaf (w := wkind v7 K) (kd := (AK (i - 1)).1) (len := (AK (i - 1)).2) h9 ⟨fun z => by omega, by omega, by omega⟩)
  refine V_re (w' := wkind v7 K) (loc' := [some (vR (some (6, 0, mo)))]) (st' := []) (fun H hP => Wp_re (w := v7) (w' := wkind v7 K) rfl rfl rfl (fun _ _ => rfl) (fun k hk => ?_) hP) rfl ⟨Vm.r rfl (fun _ => okr_of (by decide) (by omega) K0), trivial⟩ trivial ?_
  · by_cases z : k = mo
    · subst z
      refine eE_obj (ci := 6) K6 K0 (by decide) (fun j q e => ?_)
      rcases rf6_in e with ⟨rfl, rfl⟩ | ⟨rfl, rfl⟩ | ⟨rfl, rfl⟩ | ⟨rfl, rfl⟩ | ⟨rfl, rfl⟩ | ⟨rfl, rfl⟩ | ⟨rfl, rfl⟩
      · exact ⟨_, _, (h6 0 (by decide)).2⟩
      · exact ⟨_, _, (h6 1 (by decide)).2⟩
      · exact ⟨_, _, (h6 2 (by decide)).2⟩
      · exact ⟨_, _, (h6 3 (by decide)).2⟩
      · exact ⟨_, _, (h6 4 (by decide)).2⟩
      · exact ⟨_, _, (h6 5 (by decide)).2⟩
      · exact ⟨_, _, (h6 6 (by decide)).2⟩
    · exact eE_same (Ko k z)
  · have hC8 := Cx_ext hC0 E8
    refine V_aload_n hC8 kX6_init_63 rfl ?_
    refine V_iconst hC8 (0) kX6_init_64 (by decide) ?_
    refine V_putI hC8 6 0 lfX6_32 kX6_init_65 (Nat.le_of_ble_eq_true rfl) (Nat.le_of_ble_eq_true rfl) rfl rfl ⟨rfl, rfl⟩ ?_
    refine V_aload_n hC8 kX6_init_68 rfl ?_
    refine V_cV_fV hC8 (ct_begins W8) mkX6_begins lmX6_36 kX6_init_69 (by decide) rfl rfl rfl (Nat.le_of_ble_eq_true rfl) ⟨(Nat.le_of_ble_eq_true rfl), (Nat.le_of_ble_eq_true rfl)⟩ ⟨rfl, rfl⟩ ⟨(Nat.le_of_ble_eq_true rfl), (Nat.le_of_ble_eq_true rfl)⟩ ?_
    refine V_vretN hC8 (by rw [E8.b, E1.b]) rfl kX6_init_72 ⟨(Nat.le_of_ble_eq_true rfl), (Nat.le_of_ble_eq_true rfl)⟩ ?_
    refine ⟨E8, W8, K0, A6, fun k hk => ?_, fun j => ?_, ?_, fun j => ?_⟩
    · rw [upr_ne _ _ (by omega), ups_ne _ _ _ (by omega)]
      repeat rw [upr_ne _ _ (by omega)]
    · rw [upr_ne _ _ (by omega), ups_v]
      by_cases z : mo = mo ∧ j = 0
      · rw [if_pos z]
      · rw [if_neg z]
        repeat rw [upr_ne _ _ (by omega)]
        exact hz j
    · rw [upr_at]
      refine congrArg F_begins ?_
      rw [ups_ne _ _ _ (by omega)]
      repeat rw [upr_ne _ _ (by omega)]
      exact upr_at _ _ _
    · rw [upr_ne _ _ (by omega), ups_ne _ _ _ (by omega), upr_ne _ _ (by omega), upr_ne _ _ (by omega), upr_at]
